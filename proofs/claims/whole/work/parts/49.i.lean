/-! what is given of the start (by program) -/
theorem ao_v : Cond.arrayOver (.object "AbcForms$Voice") ∈ lw_tbl := List.mem_append_right _ (show _ ∈ tables_1 from List.mem_append_left _ (List.mem_of_getElem? (l := tables_1_1) (i := 114) rfl))
theorem mn_r : Cond.methodLinkNest RX4 32 yX2_init "AbcForms" ∈ lw_tbl := List.mem_append_right _ (show _ ∈ tables_1 from List.mem_append_right _ (List.mem_append_left _ (List.mem_of_getElem? (l := tables_1_2) (i := 40) rfl)))
theorem sr_0 : Cond.stringRef "AbcForms$Fields" 19 "none" ∈ lw_tbl := List.mem_append_right _ (show _ ∈ tables_1 from List.mem_append_right _ (List.mem_append_right _ (List.mem_append_left _ (List.mem_of_getElem? (l := tables_1_3) (i := 11) rfl))))
theorem sr_1 : Cond.stringRef "AbcForms$Fields" 27 "C|" ∈ lw_tbl := List.mem_append_right _ (show _ ∈ tables_1 from List.mem_append_right _ (List.mem_append_right _ (List.mem_append_left _ (List.mem_of_getElem? (l := tables_1_3) (i := 64) rfl))))
theorem sr_2 : Cond.stringRef "AbcForms$Fields" 29 "C" ∈ lw_tbl := List.mem_append_right _ (show _ ∈ tables_1 from List.mem_append_right _ (List.mem_append_right _ (List.mem_append_left _ (List.mem_of_getElem? (l := tables_1_3) (i := 65) rfl))))
theorem sr_3 : Cond.stringRef "AbcForms$Fields" 60 "FCGDAEB" ∈ lw_tbl := List.mem_append_right _ (show _ ∈ tables_1 from List.mem_append_right _ (List.mem_append_right _ (List.mem_append_left _ (List.mem_of_getElem? (l := tables_1_3) (i := 77) rfl))))
theorem sr_4 : Cond.stringRef "AbcForms$Fields" 67 "#" ∈ lw_tbl := List.mem_append_right _ (show _ ∈ tables_1 from List.mem_append_right _ (List.mem_append_right _ (List.mem_append_left _ (List.mem_of_getElem? (l := tables_1_3) (i := 133) rfl))))
theorem sr_5 : Cond.stringRef "AbcForms$Fields" 69 "b" ∈ lw_tbl := List.mem_append_right _ (show _ ∈ tables_1 from List.mem_append_right _ (List.mem_append_right _ (List.mem_append_left _ (List.mem_of_getElem? (l := tables_1_3) (i := 134) rfl))))
theorem sr_6 : Cond.stringRef "AbcForms$Fields" 80 "maj" ∈ lw_tbl := List.mem_append_right _ (show _ ∈ tables_1 from List.mem_append_right _ (List.mem_append_right _ (List.mem_append_left _ (List.mem_of_getElem? (l := tables_1_3) (i := 139) rfl))))
theorem sr_7 : Cond.stringRef "AbcForms$Fields" 82 "ion" ∈ lw_tbl := List.mem_append_right _ (show _ ∈ tables_1 from List.mem_append_right _ (List.mem_append_right _ (List.mem_append_left _ (List.mem_of_getElem? (l := tables_1_3) (i := 140) rfl))))
theorem sr_8 : Cond.stringRef "AbcForms$Fields" 84 "dor" ∈ lw_tbl := List.mem_append_right _ (show _ ∈ tables_1 from List.mem_append_right _ (List.mem_append_right _ (List.mem_append_left _ (List.mem_of_getElem? (l := tables_1_3) (i := 141) rfl))))
theorem sr_9 : Cond.stringRef "AbcForms$Fields" 86 "phr" ∈ lw_tbl := List.mem_append_right _ (show _ ∈ tables_1 from List.mem_append_right _ (List.mem_append_right _ (List.mem_append_left _ (List.mem_of_getElem? (l := tables_1_3) (i := 142) rfl))))
theorem sr_10 : Cond.stringRef "AbcForms$Fields" 88 "lyd" ∈ lw_tbl := List.mem_append_right _ (show _ ∈ tables_1 from List.mem_append_right _ (List.mem_append_right _ (List.mem_append_left _ (List.mem_of_getElem? (l := tables_1_3) (i := 143) rfl))))
theorem sr_11 : Cond.stringRef "AbcForms$Fields" 90 "mix" ∈ lw_tbl := List.mem_append_right _ (show _ ∈ tables_1 from List.mem_append_right _ (List.mem_append_right _ (List.mem_append_left _ (List.mem_of_getElem? (l := tables_1_3) (i := 144) rfl))))
theorem sr_12 : Cond.stringRef "AbcForms$Fields" 92 "loc" ∈ lw_tbl := List.mem_append_right _ (show _ ∈ tables_1 from List.mem_append_right _ (List.mem_append_right _ (List.mem_append_left _ (List.mem_of_getElem? (l := tables_1_3) (i := 145) rfl))))
theorem sr_13 : Cond.stringRef "AbcForms$Fields" 94 "min" ∈ lw_tbl := List.mem_append_right _ (show _ ∈ tables_1 from List.mem_append_right _ (List.mem_append_right _ (List.mem_append_left _ (List.mem_of_getElem? (l := tables_1_3) (i := 146) rfl))))
theorem sr_14 : Cond.stringRef "AbcForms$Fields" 96 "aeo" ∈ lw_tbl := List.mem_append_right _ (show _ ∈ tables_1 from List.mem_append_right _ (List.mem_append_right _ (List.mem_append_left _ (List.mem_of_getElem? (l := tables_1_3) (i := 147) rfl))))
theorem sr_15 : Cond.stringRef "AbcForms$Fields" 98 "m" ∈ lw_tbl := List.mem_append_right _ (show _ ∈ tables_1 from List.mem_append_right _ (List.mem_append_right _ (List.mem_append_left _ (List.mem_of_getElem? (l := tables_1_3) (i := 148) rfl))))
theorem sr_16 : Cond.stringRef "AbcForms$Reader" 237 "^_=ABCDEFGabcdefg" ∈ lw_tbl := List.mem_append_right _ (show _ ∈ tables_1 from List.mem_append_right _ (List.mem_append_right _ (List.mem_append_left _ (List.mem_of_getElem? (l := tables_1_3) (i := 239) rfl))))
theorem sr_17 : Cond.stringRef "AbcForms$Reader" 244 ".~HTMPuv" ∈ lw_tbl := List.mem_append_right _ (show _ ∈ tables_1 from List.mem_append_right _ (List.mem_append_right _ (List.mem_append_right _ (List.mem_append_left _ (List.mem_of_getElem? (l := tables_1_4) (i := 1) rfl)))))
theorem sr_18 : Cond.stringRef "AbcForms$Reader" 274 "CDEFGABcdefgab" ∈ lw_tbl := List.mem_append_right _ (show _ ∈ tables_1 from List.mem_append_right _ (List.mem_append_right _ (List.mem_append_right _ (List.mem_append_left _ (List.mem_of_getElem? (l := tables_1_4) (i := 34) rfl)))))
theorem sr_19 : Cond.stringRef "AbcForms$Writer" 52 "CDEFGABcdefgab" ∈ lw_tbl := List.mem_append_right _ (show _ ∈ tables_1 from List.mem_append_right _ (List.mem_append_right _ (List.mem_append_right _ (List.mem_append_right _ (List.mem_append_left _ (List.mem_of_getElem? (l := tables_1_5) (i := 41) rfl))))))
theorem sr_20 : Cond.stringRef "AbcFormsModel" 201 "none" ∈ lw_tbl := List.mem_append_right _ (show _ ∈ tables_1 from List.mem_append_right _ (List.mem_append_right _ (List.mem_append_right _ (List.mem_append_right _ (List.mem_append_right _ (List.mem_append_left _ (List.mem_of_getElem? (l := tables_1_6) (i := 200) rfl)))))))
theorem sr_21 : Cond.stringRef "AbcFormsModel" 221 "maj" ∈ lw_tbl := List.mem_append_right _ (show _ ∈ tables_1 from List.mem_append_right _ (List.mem_append_right _ (List.mem_append_right _ (List.mem_append_right _ (List.mem_append_right _ (List.mem_append_left _ (List.mem_of_getElem? (l := tables_1_6) (i := 224) rfl)))))))
theorem sr_22 : Cond.stringRef "AbcFormsModel" 223 "ion" ∈ lw_tbl := List.mem_append_right _ (show _ ∈ tables_1 from List.mem_append_right _ (List.mem_append_right _ (List.mem_append_right _ (List.mem_append_right _ (List.mem_append_right _ (List.mem_append_left _ (List.mem_of_getElem? (l := tables_1_6) (i := 225) rfl)))))))
theorem sr_23 : Cond.stringRef "AbcFormsModel" 225 "min" ∈ lw_tbl := List.mem_append_right _ (show _ ∈ tables_1 from List.mem_append_right _ (List.mem_append_right _ (List.mem_append_right _ (List.mem_append_right _ (List.mem_append_right _ (List.mem_append_left _ (List.mem_of_getElem? (l := tables_1_6) (i := 226) rfl)))))))
theorem sr_24 : Cond.stringRef "AbcFormsModel" 227 "aeo" ∈ lw_tbl := List.mem_append_right _ (show _ ∈ tables_1 from List.mem_append_right _ (List.mem_append_right _ (List.mem_append_right _ (List.mem_append_right _ (List.mem_append_right _ (List.mem_append_left _ (List.mem_of_getElem? (l := tables_1_6) (i := 227) rfl)))))))
theorem sr_25 : Cond.stringRef "AbcFormsModel" 229 "dor" ∈ lw_tbl := List.mem_append_right _ (show _ ∈ tables_1 from List.mem_append_right _ (List.mem_append_right _ (List.mem_append_right _ (List.mem_append_right _ (List.mem_append_right _ (List.mem_append_left _ (List.mem_of_getElem? (l := tables_1_6) (i := 228) rfl)))))))
theorem sr_26 : Cond.stringRef "AbcFormsModel" 231 "phr" ∈ lw_tbl := List.mem_append_right _ (show _ ∈ tables_1 from List.mem_append_right _ (List.mem_append_right _ (List.mem_append_right _ (List.mem_append_right _ (List.mem_append_right _ (List.mem_append_left _ (List.mem_of_getElem? (l := tables_1_6) (i := 229) rfl)))))))
theorem sr_27 : Cond.stringRef "AbcFormsModel" 233 "lyd" ∈ lw_tbl := List.mem_append_right _ (show _ ∈ tables_1 from List.mem_append_right _ (List.mem_append_right _ (List.mem_append_right _ (List.mem_append_right _ (List.mem_append_right _ (List.mem_append_left _ (List.mem_of_getElem? (l := tables_1_6) (i := 230) rfl)))))))
theorem sr_28 : Cond.stringRef "AbcFormsModel" 235 "mix" ∈ lw_tbl := List.mem_append_right _ (show _ ∈ tables_1 from List.mem_append_right _ (List.mem_append_right _ (List.mem_append_right _ (List.mem_append_right _ (List.mem_append_right _ (List.mem_append_left _ (List.mem_of_getElem? (l := tables_1_6) (i := 231) rfl)))))))
theorem sr_29 : Cond.stringRef "AbcFormsModel" 237 "loc" ∈ lw_tbl := List.mem_append_right _ (show _ ∈ tables_1 from List.mem_append_right _ (List.mem_append_right _ (List.mem_append_right _ (List.mem_append_right _ (List.mem_append_right _ (List.mem_append_left _ (List.mem_of_getElem? (l := tables_1_6) (i := 232) rfl)))))))
theorem sr_30 : Cond.stringRef "AbcFormsModel" 239 "m" ∈ lw_tbl := List.mem_append_right _ (show _ ∈ tables_1 from List.mem_append_right _ (List.mem_append_right _ (List.mem_append_right _ (List.mem_append_right _ (List.mem_append_right _ (List.mem_append_left _ (List.mem_of_getElem? (l := tables_1_6) (i := 233) rfl)))))))
theorem nl_0 : Cond.fieldLinkNest "AbcForms$Voice" 78 "AbcForms" "SHARP_ORDER" "[I" "AbcForms" ∈ lw_tbl := List.mem_append_right _ (show _ ∈ tables_1 from List.mem_append_right _ (List.mem_append_right _ (List.mem_append_right _ (List.mem_append_left _ (List.mem_of_getElem? (l := tables_1_4) (i := 55) rfl)))))
theorem nl_1 : Cond.fieldLinkNest "AbcForms$Reader" 307 "AbcForms" "LETTER_PITCH" "[I" "AbcForms" ∈ lw_tbl := List.mem_append_right _ (show _ ∈ tables_1 from List.mem_append_right _ (List.mem_append_right _ (List.mem_append_right _ (List.mem_append_left _ (List.mem_of_getElem? (l := tables_1_4) (i := 65) rfl)))))
theorem nl_2 : Cond.fieldLinkNest "AbcFormsModel" 129 "AbcFormsModel$Fault" "what" "I" "AbcFormsModel" ∈ lw_tbl := List.mem_append_right _ (show _ ∈ tables_1 from List.mem_append_right _ (List.mem_append_right _ (List.mem_append_right _ (List.mem_append_right _ (List.mem_append_left _ (List.mem_of_getElem? (l := tables_1_5) (i := 123) rfl))))))
theorem nl_3 : Cond.fieldLinkNest "AbcFormsModel" 132 "AbcFormsModel$Fault" "place" "I" "AbcFormsModel" ∈ lw_tbl := List.mem_append_right _ (show _ ∈ tables_1 from List.mem_append_right _ (List.mem_append_right _ (List.mem_append_right _ (List.mem_append_right _ (List.mem_append_left _ (List.mem_of_getElem? (l := tables_1_5) (i := 124) rfl))))))
theorem ls_c : Cond.laysStatic "java/lang/String" "COMPACT_STRINGS" "Z" ∈ lw_tbl := List.mem_append_right _ (show _ ∈ tables_1 from List.mem_append_right _ (List.mem_append_right _ (List.mem_append_left _ (List.mem_of_getElem? (l := tables_1_3) (i := 25) rfl))))
theorem ls_1 : Cond.laysStatic "AbcForms" "SHARP_ORDER" "[I" ∈ lw_tbl := List.mem_append_right _ (show _ ∈ tables_1 from List.mem_append_right _ (List.mem_append_right _ (List.mem_append_right _ (List.mem_append_left _ (List.mem_of_getElem? (l := tables_1_4) (i := 56) rfl)))))
theorem ls_2 : Cond.laysStatic "AbcForms" "LETTER_PITCH" "[I" ∈ lw_tbl := List.mem_append_right _ (show _ ∈ tables_1 from List.mem_append_right _ (List.mem_append_right _ (List.mem_append_right _ (List.mem_append_left _ (List.mem_of_getElem? (l := tables_1_4) (i := 66) rfl)))))
theorem ls_u : Cond.laysStatic "java/lang/Throwable" "UNASSIGNED_STACK" "[Ljava/lang/StackTraceElement;" ∈ lw_tbl := List.mem_append_right _ (show _ ∈ tables_1 from List.mem_append_right _ (List.mem_append_right _ (List.mem_append_right _ (List.mem_append_right _ (List.mem_append_left _ (List.mem_of_getElem? (l := tables_1_5) (i := 99) rfl))))))
theorem ls_s : Cond.laysStatic "java/lang/Throwable" "SUPPRESSED_SENTINEL" "Ljava/util/List;" ∈ lw_tbl := List.mem_append_right _ (show _ ∈ tables_1 from List.mem_append_right _ (List.mem_append_right _ (List.mem_append_right _ (List.mem_append_right _ (List.mem_append_left _ (List.mem_of_getElem? (l := tables_1_5) (i := 101) rfl))))))
theorem ls_q : Cond.laysStatic "jdk/internal/util/Preconditions" "SIOOBE_FORMATTER" "Ljava/util/function/BiFunction;" ∈ lw_tbl := List.mem_append_right _ (show _ ∈ tables_1 from List.mem_append_right _ (List.mem_append_right _ (List.mem_append_left _ (List.mem_of_getElem? (l := tables_1_3) (i := 41) rfl))))
theorem jn_s : Cond.initialized "java/lang/String" ∈ lw_tbl := List.mem_append_right _ (show _ ∈ tables_1 from List.mem_append_left _ (List.mem_of_getElem? (l := tables_1_1) (i := 17) rfl))
theorem jn_t : Cond.initialized "java/lang/Throwable" ∈ lw_tbl := List.mem_append_right _ (show _ ∈ tables_1 from List.mem_append_left _ (List.mem_of_getElem? (l := tables_1_1) (i := 13) rfl))
theorem jn_a : Cond.initialized "AbcForms" ∈ lw_tbl := List.mem_append_right _ (show _ ∈ tables_1 from List.mem_append_left _ (List.mem_of_getElem? (l := tables_1_1) (i := 1) rfl))
theorem jn_q : Cond.initialized "jdk/internal/util/Preconditions" ∈ lw_tbl := List.mem_append_right _ (show _ ∈ tables_1 from List.mem_append_left _ (List.mem_of_getElem? (l := tables_1_1) (i := 19) rfl))
abbrev gv : List Cond := flatC (Jvm.Cond.and given_1 narrow_1)
def xtm (i : Nat) : Term := .string (xsr.getD i ("", 0, "")).1 (xsr.getD i ("", 0, "")).2.1
set_option maxRecDepth 20000 in
theorem gs_ex : ∀ i, i < 31 → Cond.exactly (xtm i) "java/lang/String" ∈ gv := by decide +kernel
set_option maxRecDepth 20000 in
theorem gs_co : ∀ i, i < 31 → Cond.eq (.field (xtm i) "java/lang/String" "coder" "B") (.int 0) ∈ gv := by decide +kernel
set_option maxRecDepth 20000 in
theorem gs_ar : ∀ i, i < 31 → Cond.arrayOf (.field (xtm i) "java/lang/String" "value" "[B") .byte ∈ gv := by decide +kernel
set_option maxRecDepth 20000 in
theorem gs_le : ∀ i, i < 31 → Cond.eq (.length (.field (xtm i) "java/lang/String" "value" "[B")) (.int (Int32.ofNat (xtx.getD i []).length)) ∈ gv := by decide +kernel
set_option maxRecDepth 20000 in
theorem gs_el : ∀ i, i < 31 → ∀ j, j < (xtx.getD i []).length → Cond.eq (.elem (.field (xtm i) "java/lang/String" "value" "[B") (.int (Int32.ofNat j))) (.int ((xtx.getD i []).getD j 0)) ∈ gv := by decide +kernel
set_option maxRecDepth 20000 in
theorem gs_cs : Cond.eq (.static "java/lang/String" "COMPACT_STRINGS" "Z") (.int 1) ∈ gv := by decide +kernel

set_option maxRecDepth 20000 in
theorem gt_1a : Cond.arrayOf (.static "AbcForms" "SHARP_ORDER" "[I") .int ∈ gv := by decide +kernel
set_option maxRecDepth 20000 in
theorem gt_1l : Cond.eq (.length (.static "AbcForms" "SHARP_ORDER" "[I")) (.int (Int32.ofNat 7)) ∈ gv := by decide +kernel
set_option maxRecDepth 20000 in
theorem gt_1e : ∀ j, j < 7 → Cond.eq (.elem (.static "AbcForms" "SHARP_ORDER" "[I") (.int (Int32.ofNat j))) (.int (xf1 j)) ∈ gv := by decide +kernel
set_option maxRecDepth 20000 in
theorem gt_2a : Cond.arrayOf (.static "AbcForms" "LETTER_PITCH" "[I") .int ∈ gv := by decide +kernel
set_option maxRecDepth 20000 in
theorem gt_2l : Cond.eq (.length (.static "AbcForms" "LETTER_PITCH" "[I")) (.int (Int32.ofNat 7)) ∈ gv := by decide +kernel
set_option maxRecDepth 20000 in
theorem gt_2e : ∀ j, j < 7 → Cond.eq (.elem (.static "AbcForms" "LETTER_PITCH" "[I") (.int (Int32.ofNat j))) (.int (xf2 j)) ∈ gv := by decide +kernel
set_option maxRecDepth 20000 in
theorem gu_u : Cond.isRef (.static "java/lang/Throwable" "UNASSIGNED_STACK" "[Ljava/lang/StackTraceElement;") ∈ gv := by decide +kernel
set_option maxRecDepth 20000 in
theorem gu_s : Cond.isRef (.static "java/lang/Throwable" "SUPPRESSED_SENTINEL" "Ljava/util/List;") ∈ gv := by decide +kernel
set_option maxRecDepth 20000 in
theorem gu_q : Cond.isRef (.static "jdk/internal/util/Preconditions" "SIOOBE_FORMATTER" "Ljava/util/function/BiFunction;") ∈ gv := by decide +kernel
