/-- a value with a name, a reference that may be null -/
def kk {α : Sort _} {β : Sort _} (e : α) (f : α → β) : β := f e
theorem kk_v {α : Type} {β : Type} {e : α} {f : α → β} {r : β} (h : kk e f = r) : f e = r := h
theorem kk_vq {α : Type} {β : Type} {e q : α} {f : α → β} {r : β} (h : kk e f = r) (hq : q = e) : f q = r := by subst hq; exact h
theorem kk_pq {α : Type} {e q : α} {f : α → Prop} (h : kk e f) (hq : q = e) : f q := by subst hq; exact h
theorem kk_p {α : Type} {e : α} {f : α → Prop} (h : kk e f) : f e := h
def oc {α : Type} {β : Sort _} : Option α → β → (α → β) → β
  | none, b, _ => b
  | some a, _, f => f a
theorem oc_n {α β : Type} {b r : β} {f : α → β} (h : oc none b f = r) : b = r := h
theorem oc_s {α β : Type} {b r : β} {f : α → β} {a : α} (h : oc (some a) b f = r) : f a = r := h
theorem oc_pn {α : Type} {b : Prop} {f : α → Prop} (h : oc none b f) : b := h
theorem oc_ps {α : Type} {b : Prop} {f : α → Prop} {a : α} (h : oc (some a) b f) : f a := h
theorem zout6_1 {x : Int32} (h0 : ¬ x = 1) (h1 : ¬ x = 2) (h2 : ¬ x = 3) (h3 : ¬ x = 4) (h4 : ¬ x = 5) (h5 : ¬ x = 6) : x.toInt < 1 ∨ 6 < x.toInt := by
  have k := lv_neT h0 (a := 1) rfl
  have k0 := k
  have k := lv_neT h1 (a := 2) rfl
  have k1 := k
  have k := lv_neT h2 (a := 3) rfl
  have k2 := k
  have k := lv_neT h3 (a := 4) rfl
  have k3 := k
  have k := lv_neT h4 (a := 5) rfl
  have k4 := k
  have k := lv_neT h5 (a := 6) rfl
  have k5 := k
  omega
theorem zout7_0 {x : Int32} (h0 : ¬ x = 0) (h1 : ¬ x = 1) (h2 : ¬ x = 2) (h3 : ¬ x = 3) (h4 : ¬ x = 4) (h5 : ¬ x = 5) (h6 : ¬ x = 6) : x.toInt < 0 ∨ 6 < x.toInt := by
  have k := lv_neT h0 (a := 0) rfl
  have k0 := k
  have k := lv_neT h1 (a := 1) rfl
  have k1 := k
  have k := lv_neT h2 (a := 2) rfl
  have k2 := k
  have k := lv_neT h3 (a := 3) rfl
  have k3 := k
  have k := lv_neT h4 (a := 4) rfl
  have k4 := k
  have k := lv_neT h5 (a := 5) rfl
  have k5 := k
  have k := lv_neT h6 (a := 6) rfl
  have k6 := k
  omega
theorem zout4_0 {x : Int32} (h0 : ¬ x = 0) (h1 : ¬ x = 1) (h2 : ¬ x = 2) (h3 : ¬ x = 3) : x.toInt < 0 ∨ 3 < x.toInt := by
  have k := lv_neT h0 (a := 0) rfl
  have k0 := k
  have k := lv_neT h1 (a := 1) rfl
  have k1 := k
  have k := lv_neT h2 (a := 2) rfl
  have k2 := k
  have k := lv_neT h3 (a := 3) rfl
  have k3 := k
  omega
theorem zout5_0 {x : Int32} (h0 : ¬ x = 0) (h1 : ¬ x = 1) (h2 : ¬ x = 2) (h3 : ¬ x = 3) (h4 : ¬ x = 4) : x.toInt < 0 ∨ 4 < x.toInt := by
  have k := lv_neT h0 (a := 0) rfl
  have k0 := k
  have k := lv_neT h1 (a := 1) rfl
  have k1 := k
  have k := lv_neT h2 (a := 2) rfl
  have k2 := k
  have k := lv_neT h3 (a := 3) rfl
  have k3 := k
  have k := lv_neT h4 (a := 4) rfl
  have k4 := k
  omega
theorem zout10_0 {x : Int32} (h0 : ¬ x = 0) (h1 : ¬ x = 1) (h2 : ¬ x = 2) (h3 : ¬ x = 3) (h4 : ¬ x = 4) (h5 : ¬ x = 5) (h6 : ¬ x = 6) (h7 : ¬ x = 7) (h8 : ¬ x = 8) (h9 : ¬ x = 9) : x.toInt < 0 ∨ 9 < x.toInt := by
  have k := lv_neT h0 (a := 0) rfl
  have k0 := k
  have k := lv_neT h1 (a := 1) rfl
  have k1 := k
  have k := lv_neT h2 (a := 2) rfl
  have k2 := k
  have k := lv_neT h3 (a := 3) rfl
  have k3 := k
  have k := lv_neT h4 (a := 4) rfl
  have k4 := k
  have k := lv_neT h5 (a := 5) rfl
  have k5 := k
  have k := lv_neT h6 (a := 6) rfl
  have k6 := k
  have k := lv_neT h7 (a := 7) rfl
  have k7 := k
  have k := lv_neT h8 (a := 8) rfl
  have k8 := k
  have k := lv_neT h9 (a := 9) rfl
  have k9 := k
  omega
theorem zout3_0 {x : Int32} (h0 : ¬ x = 0) (h1 : ¬ x = 1) (h2 : ¬ x = 2) : x.toInt < 0 ∨ 2 < x.toInt := by
  have k := lv_neT h0 (a := 0) rfl
  have k0 := k
  have k := lv_neT h1 (a := 1) rfl
  have k1 := k
  have k := lv_neT h2 (a := 2) rfl
  have k2 := k
  omega
theorem uin_X0 : ∀ w ∈ u_ws RX0 TX0 5, w ∈ TS := fun w hw => List.mem_filter.mpr ⟨(by decide +kernel : ∀ w ∈ u_ws RX0 TX0 5, w ∈ lw_tbl) w hw, (by decide +kernel : ∀ w ∈ u_ws RX0 TX0 5, goodWord w = true) w hw⟩
theorem uin_X1 : ∀ w ∈ u_ws RX1 TX1 3, w ∈ TS := fun w hw => List.mem_filter.mpr ⟨(by decide +kernel : ∀ w ∈ u_ws RX1 TX1 3, w ∈ lw_tbl) w hw, (by decide +kernel : ∀ w ∈ u_ws RX1 TX1 3, goodWord w = true) w hw⟩
theorem uin_X2 : ∀ w ∈ u_ws RX2 TX2 8, w ∈ TS := fun w hw => List.mem_filter.mpr ⟨(by decide +kernel : ∀ w ∈ u_ws RX2 TX2 8, w ∈ lw_tbl) w hw, (by decide +kernel : ∀ w ∈ u_ws RX2 TX2 8, goodWord w = true) w hw⟩
theorem uin_X3 : ∀ w ∈ u_ws RX3 TX3 7, w ∈ TS := fun w hw => List.mem_filter.mpr ⟨(by decide +kernel : ∀ w ∈ u_ws RX3 TX3 7, w ∈ lw_tbl) w hw, (by decide +kernel : ∀ w ∈ u_ws RX3 TX3 7, goodWord w = true) w hw⟩
theorem uin_X4 : ∀ w ∈ u_ws RX4 TX4 11, w ∈ TS := fun w hw => List.mem_filter.mpr ⟨(by decide +kernel : ∀ w ∈ u_ws RX4 TX4 11, w ∈ lw_tbl) w hw, (by decide +kernel : ∀ w ∈ u_ws RX4 TX4 11, goodWord w = true) w hw⟩
theorem uin_X5 : ∀ w ∈ u_ws RX5 TX5 3, w ∈ TS := fun w hw => List.mem_filter.mpr ⟨(by decide +kernel : ∀ w ∈ u_ws RX5 TX5 3, w ∈ lw_tbl) w hw, (by decide +kernel : ∀ w ∈ u_ws RX5 TX5 3, goodWord w = true) w hw⟩
theorem uin_X6 : ∀ w ∈ u_ws RX6 TX6 12, w ∈ TS := fun w hw => List.mem_filter.mpr ⟨(by decide +kernel : ∀ w ∈ u_ws RX6 TX6 12, w ∈ lw_tbl) w hw, (by decide +kernel : ∀ w ∈ u_ws RX6 TX6 12, goodWord w = true) w hw⟩
theorem uin_X7 : ∀ w ∈ u_ws RX7 TX7 45, w ∈ TS := fun w hw => List.mem_filter.mpr ⟨(by decide +kernel : ∀ w ∈ u_ws RX7 TX7 45, w ∈ lw_tbl) w hw, (by decide +kernel : ∀ w ∈ u_ws RX7 TX7 45, goodWord w = true) w hw⟩
theorem tw_f_RX7_99 : Cond.fieldLink RX7 99 RX7 "comers" "I" ∈ TS := ts_mem 854 (by decide +kernel) rfl
theorem tw_f_RX7_7 : Cond.fieldLink RX7 7 RX7 "way" "I" ∈ TS := ts_mem 855 (by decide +kernel) rfl
theorem tw_f_RX7_124 : Cond.fieldLink RX7 124 RX7 "fog" "I" ∈ TS := ts_mem 856 (by decide +kernel) rfl
theorem tw_f_RX7_13 : Cond.fieldLink RX7 13 RX7 "toll" "I" ∈ TS := ts_mem 857 (by decide +kernel) rfl
theorem tw_f_RX7_16 : Cond.fieldLink RX7 16 RX7 "push" "I" ∈ TS := ts_mem 858 (by decide +kernel) rfl
theorem tw_f_RX7_177 : Cond.fieldLink RX7 177 RX7 "gone" "I" ∈ TS := ts_mem 859 (by decide +kernel) rfl
theorem tw_f_RX7_19 : Cond.fieldLink RX7 19 RX7 "seed" "I" ∈ TS := ts_mem 860 (by decide +kernel) rfl
theorem tw_f_RX7_22 : Cond.fieldLink RX7 22 RX7 "fault" "I" ∈ TS := ts_mem 861 (by decide +kernel) rfl
theorem tw_f_RX7_25 : Cond.fieldLink RX7 25 RX7 "refused" "[I" ∈ TS := ts_mem 862 (by decide +kernel) rfl
theorem tw_f_RX7_29 : Cond.fieldLink RX7 29 RX7 "kind" "[I" ∈ TS := ts_mem 863 (by decide +kernel) rfl
theorem tw_f_RX7_32 : Cond.fieldLink RX7 32 RX7 "part" "[I" ∈ TS := ts_mem 864 (by decide +kernel) rfl
theorem tw_f_RX7_35 : Cond.fieldLink RX7 35 RX7 "nerve" "[I" ∈ TS := ts_mem 865 (by decide +kernel) rfl
theorem tw_f_RX7_38 : Cond.fieldLink RX7 38 RX7 "pace" "[I" ∈ TS := ts_mem 866 (by decide +kernel) rfl
theorem tw_f_RX7_41 : Cond.fieldLink RX7 41 RX7 "load" "[I" ∈ TS := ts_mem 867 (by decide +kernel) rfl
theorem tw_f_RX7_44 : Cond.fieldLink RX7 44 RX7 "purse" "[I" ∈ TS := ts_mem 868 (by decide +kernel) rfl
theorem tw_f_RX7_47 : Cond.fieldLink RX7 47 RX7 "doubt" "[I" ∈ TS := ts_mem 869 (by decide +kernel) rfl
theorem tw_f_RX7_50 : Cond.fieldLink RX7 50 RX7 "held" "[I" ∈ TS := ts_mem 870 (by decide +kernel) rfl
theorem tw_f_RX7_53 : Cond.fieldLink RX7 53 RX7 "sort" "[I" ∈ TS := ts_mem 871 (by decide +kernel) rfl
theorem tw_f_RX7_56 : Cond.fieldLink RX7 56 RX7 "size" "[I" ∈ TS := ts_mem 872 (by decide +kernel) rfl
theorem tw_f_RX7_59 : Cond.fieldLink RX7 59 RX7 "shown" "[I" ∈ TS := ts_mem 873 (by decide +kernel) rfl
theorem tw_f_RX7_62 : Cond.fieldLink RX7 62 RX7 "cells" "[J" ∈ TS := ts_mem 874 (by decide +kernel) rfl
theorem tw_f_RX7_66 : Cond.fieldLink RX7 66 RX7 "carried" "[J" ∈ TS := ts_mem 875 (by decide +kernel) rfl
theorem tw_f_RX7_69 : Cond.fieldLink RX7 69 RX7 "words" "[I" ∈ TS := ts_mem 876 (by decide +kernel) rfl
theorem tw_f_RX7_72 : Cond.fieldLink RX7 72 RX7 "numbers" "[I" ∈ TS := ts_mem 877 (by decide +kernel) rfl
theorem tw_f_RX7_75 : Cond.fieldLink RX7 75 RX7 "mosts" "[I" ∈ TS := ts_mem 878 (by decide +kernel) rfl
theorem tw_f_RX7_78 : Cond.fieldLink RX7 78 RX7 "told" "[I" ∈ TS := ts_mem 879 (by decide +kernel) rfl
theorem tw_f_RX7_147 : Cond.fieldLink RX7 147 RX7 "base" "I" ∈ TS := ts_mem 880 (by decide +kernel) rfl
theorem tw_f_RX7_141 : Cond.fieldLink RX7 141 RX7 "place" "I" ∈ TS := ts_mem 881 (by decide +kernel) rfl
theorem tw_f_RX7_144 : Cond.fieldLink RX7 144 RX7 "end" "I" ∈ TS := ts_mem 882 (by decide +kernel) rfl
theorem tw_f_RX7_150 : Cond.fieldLink RX7 150 RX7 "number" "I" ∈ TS := ts_mem 883 (by decide +kernel) rfl
theorem tw_f_RX7_138 : Cond.fieldLink RX7 138 RX7 "wrongAt" "I" ∈ TS := ts_mem 884 (by decide +kernel) rfl
theorem tw_f_RX7_81 : Cond.fieldLink RX7 81 RX7 "was" "[I" ∈ TS := ts_mem 885 (by decide +kernel) rfl
theorem tw_f_RX7_84 : Cond.fieldLink RX7 84 RX7 "kept" "[I" ∈ TS := ts_mem 886 (by decide +kernel) rfl
theorem tw_f_RX7_87 : Cond.fieldLink RX7 87 RX7 "line" "[I" ∈ TS := ts_mem 887 (by decide +kernel) rfl
theorem tw_f_RX7_90 : Cond.fieldLink RX7 90 RX7 "went" "[I" ∈ TS := ts_mem 888 (by decide +kernel) rfl
theorem tw_f_RX7_93 : Cond.fieldLink RX7 93 RX7 "bestLine" "[I" ∈ TS := ts_mem 889 (by decide +kernel) rfl
theorem tw_f_RX7_217 : Cond.fieldLink RX7 217 RX7 "pushed" "I" ∈ TS := ts_mem 890 (by decide +kernel) rfl
theorem tw_f_RX7_220 : Cond.fieldLink RX7 220 RX7 "freely" "I" ∈ TS := ts_mem 891 (by decide +kernel) rfl
theorem tw_f_RX7_223 : Cond.fieldLink RX7 223 RX7 "paid" "I" ∈ TS := ts_mem 892 (by decide +kernel) rfl
theorem tw_f_RX7_226 : Cond.fieldLink RX7 226 RX7 "back" "I" ∈ TS := ts_mem 893 (by decide +kernel) rfl
theorem tw_f_RX7_246 : Cond.fieldLink RX7 246 RX7 "leastBack" "I" ∈ TS := ts_mem 894 (by decide +kernel) rfl
theorem tw_f_RX7_249 : Cond.fieldLink RX7 249 RX7 "leastPaid" "I" ∈ TS := ts_mem 895 (by decide +kernel) rfl
theorem tw_f_RX7_96 : Cond.fieldLink RX7 96 RX7 "trace" "[I" ∈ TS := ts_mem 896 (by decide +kernel) rfl
theorem tw_f_RX7_279 : Cond.fieldLink RX7 279 RX7 "ran" "I" ∈ TS := ts_mem 897 (by decide +kernel) rfl
theorem tw_f_RX7_294 : Cond.fieldLink RX7 294 RX7 "isKept" "Z" ∈ TS := ts_mem 898 (by decide +kernel) rfl
theorem tw_code_yX7_isShelf : Cond.code yX7_isShelf cX7_isShelf 2 (some .boolean) ∈ TS := ts_mem 997 (by decide +kernel) rfl
theorem tw_i_TollForHesitatorsModel : Cond.initialized RX7 ∈ TS := ts_mem 74 (by decide +kernel) rfl
theorem tw_inst_yX7_isShelf : Cond.instanceMethod yX7_isShelf ∈ TS := ts_mem 996 (by decide +kernel) rfl
theorem tw_s_yX7_isShelf : Cond.selects RX7 yX7_isShelf yX7_isShelf ∈ TS := ts_mem 22 (by decide +kernel) rfl
theorem tw_code_yX7_isComer : Cond.code yX7_isComer cX7_isComer 2 (some .boolean) ∈ TS := ts_mem 1021 (by decide +kernel) rfl
theorem tw_inst_yX7_isComer : Cond.instanceMethod yX7_isComer ∈ TS := ts_mem 1020 (by decide +kernel) rfl
theorem tw_s_yX7_isComer : Cond.selects RX7 yX7_isComer yX7_isComer ∈ TS := ts_mem 24 (by decide +kernel) rfl
theorem tw_code_yX7_isFrom : Cond.code yX7_isFrom cX7_isFrom 4 (some .boolean) ∈ TS := ts_mem 1041 (by decide +kernel) rfl
theorem tw_inst_yX7_isFrom : Cond.instanceMethod yX7_isFrom ∈ TS := ts_mem 1040 (by decide +kernel) rfl
theorem tw_s_yX7_isFrom : Cond.selects RX7 yX7_isFrom yX7_isFrom ∈ TS := ts_mem 26 (by decide +kernel) rfl
theorem tw_code_yX7_no : Cond.code yX7_no cX7_no 2 (some .int) ∈ TS := ts_mem 1001 (by decide +kernel) rfl
theorem tw_inst_yX7_no : Cond.instanceMethod yX7_no ∈ TS := ts_mem 1000 (by decide +kernel) rfl
theorem tw_s_yX7_no : Cond.selects RX7 yX7_no yX7_no ∈ TS := ts_mem 23 (by decide +kernel) rfl
theorem tw_code_yX7_noTen : Cond.code yX7_noTen cX7_noTen 2 (some .int) ∈ TS := ts_mem 1141 (by decide +kernel) rfl
theorem tw_inst_yX7_noTen : Cond.instanceMethod yX7_noTen ∈ TS := ts_mem 1140 (by decide +kernel) rfl
theorem tw_s_yX7_noTen : Cond.selects RX7 yX7_noTen yX7_noTen ∈ TS := ts_mem 44 (by decide +kernel) rfl
theorem tw_m_RX7_102 : Cond.methodLink RX7 102 yX7_isShelf ∈ TS := ts_mem 994 (by decide +kernel) rfl
theorem tw_m_RX7_106 : Cond.methodLink RX7 106 yX7_no ∈ TS := ts_mem 998 (by decide +kernel) rfl
theorem tw_code_yX7_row : Cond.code yX7_row cX7_row 5 (some .int) ∈ TS := ts_mem 993 (by decide +kernel) rfl
theorem tw_inst_yX7_row : Cond.instanceMethod yX7_row ∈ TS := ts_mem 991 (by decide +kernel) rfl
theorem tw_s_yX7_row : Cond.selects RX7 yX7_row yX7_row ∈ TS := ts_mem 992 (by decide +kernel) rfl
theorem tw_code_yX7_set : Cond.code yX7_set cX7_set 5 (some .int) ∈ TS := ts_mem 1005 (by decide +kernel) rfl
theorem tw_inst_yX7_set : Cond.instanceMethod yX7_set ∈ TS := ts_mem 1003 (by decide +kernel) rfl
theorem tw_s_yX7_set : Cond.selects RX7 yX7_set yX7_set ∈ TS := ts_mem 1004 (by decide +kernel) rfl
theorem tw_code_yX7_copy : Cond.code yX7_copy cX7_copy 7 (some .int) ∈ TS := ts_mem 1009 (by decide +kernel) rfl
theorem tw_inst_yX7_copy : Cond.instanceMethod yX7_copy ∈ TS := ts_mem 1007 (by decide +kernel) rfl
theorem tw_s_yX7_copy : Cond.selects RX7 yX7_copy yX7_copy ∈ TS := ts_mem 1008 (by decide +kernel) rfl
theorem tw_code_yX7_element : Cond.code yX7_element cX7_element 3 (some .long) ∈ TS := ts_mem 1013 (by decide +kernel) rfl
theorem tw_inst_yX7_element : Cond.instanceMethod yX7_element ∈ TS := ts_mem 1011 (by decide +kernel) rfl
theorem tw_s_yX7_element : Cond.selects RX7 yX7_element yX7_element ∈ TS := ts_mem 1012 (by decide +kernel) rfl
theorem tw_m_RX7_110 : Cond.methodLink RX7 110 yX7_isComer ∈ TS := ts_mem 1018 (by decide +kernel) rfl
theorem tw_code_yX7_show : Cond.code yX7_show cX7_show 3 (some .int) ∈ TS := ts_mem 1017 (by decide +kernel) rfl
theorem tw_inst_yX7_show : Cond.instanceMethod yX7_show ∈ TS := ts_mem 1015 (by decide +kernel) rfl
theorem tw_s_yX7_show : Cond.selects RX7 yX7_show yX7_show ∈ TS := ts_mem 1016 (by decide +kernel) rfl
theorem tw_code_yX7_holds : Cond.code yX7_holds cX7_holds 2 (some .int) ∈ TS := ts_mem 1025 (by decide +kernel) rfl
theorem tw_inst_yX7_holds : Cond.instanceMethod yX7_holds ∈ TS := ts_mem 1023 (by decide +kernel) rfl
theorem tw_s_yX7_holds : Cond.selects RX7 yX7_holds yX7_holds ∈ TS := ts_mem 1024 (by decide +kernel) rfl
theorem tw_code_yX7_step : Cond.code yX7_step cX7_step 2 (some .int) ∈ TS := ts_mem 1033 (by decide +kernel) rfl
theorem tw_inst_yX7_step : Cond.instanceMethod yX7_step ∈ TS := ts_mem 1032 (by decide +kernel) rfl
theorem tw_s_yX7_step : Cond.selects RX7 yX7_step yX7_step ∈ TS := ts_mem 25 (by decide +kernel) rfl
theorem tw_m_RX7_113 : Cond.methodLink RX7 113 yX7_step ∈ TS := ts_mem 1030 (by decide +kernel) rfl
theorem tw_code_yX7_says : Cond.code yX7_says cX7_says 6 (some .int) ∈ TS := ts_mem 1029 (by decide +kernel) rfl
theorem tw_inst_yX7_says : Cond.instanceMethod yX7_says ∈ TS := ts_mem 1027 (by decide +kernel) rfl
theorem tw_s_yX7_says : Cond.selects RX7 yX7_says yX7_says ∈ TS := ts_mem 1028 (by decide +kernel) rfl
theorem tw_code_yX7_wanted : Cond.code yX7_wanted cX7_wanted 2 (some .int) ∈ TS := ts_mem 1077 (by decide +kernel) rfl
theorem tw_inst_yX7_wanted : Cond.instanceMethod yX7_wanted ∈ TS := ts_mem 1076 (by decide +kernel) rfl
theorem tw_s_yX7_wanted : Cond.selects RX7 yX7_wanted yX7_wanted ∈ TS := ts_mem 31 (by decide +kernel) rfl
theorem tw_code_yX7_intAt : Cond.code yX7_intAt cX7_intAt 3 (some .int) ∈ TS := ts_mem 1169 (by decide +kernel) rfl
theorem tw_inst_yX7_intAt : Cond.instanceMethod yX7_intAt ∈ TS := ts_mem 1168 (by decide +kernel) rfl
theorem tw_s_yX7_intAt : Cond.selects RX7 yX7_intAt yX7_intAt ∈ TS := ts_mem 49 (by decide +kernel) rfl
theorem tw_code_yX7_adds : Cond.code yX7_adds cX7_adds 7 (some .int) ∈ TS := ts_mem 1045 (by decide +kernel) rfl
theorem tw_inst_yX7_adds : Cond.instanceMethod yX7_adds ∈ TS := ts_mem 1044 (by decide +kernel) rfl
theorem tw_s_yX7_adds : Cond.selects RX7 yX7_adds yX7_adds ∈ TS := ts_mem 27 (by decide +kernel) rfl
theorem tw_m_RX7_116 : Cond.methodLink RX7 116 yX7_isFrom ∈ TS := ts_mem 1038 (by decide +kernel) rfl
theorem tw_m_RX7_120 : Cond.methodLink RX7 120 yX7_adds ∈ TS := ts_mem 1042 (by decide +kernel) rfl
theorem tw_code_yX7_comer : Cond.code yX7_comer cX7_comer 7 (some .int) ∈ TS := ts_mem 1037 (by decide +kernel) rfl
theorem tw_inst_yX7_comer : Cond.instanceMethod yX7_comer ∈ TS := ts_mem 1035 (by decide +kernel) rfl
theorem tw_s_yX7_comer : Cond.selects RX7 yX7_comer yX7_comer ∈ TS := ts_mem 1036 (by decide +kernel) rfl
theorem tw_code_yX7_isAsked : Cond.code yX7_isAsked cX7_isAsked 3 (some .boolean) ∈ TS := ts_mem 1053 (by decide +kernel) rfl
theorem tw_inst_yX7_isAsked : Cond.instanceMethod yX7_isAsked ∈ TS := ts_mem 1052 (by decide +kernel) rfl
theorem tw_s_yX7_isAsked : Cond.selects RX7 yX7_isAsked yX7_isAsked ∈ TS := ts_mem 28 (by decide +kernel) rfl
theorem tw_code_yX7_asked : Cond.code yX7_asked cX7_asked 2 (some .int) ∈ TS := ts_mem 1057 (by decide +kernel) rfl
theorem tw_inst_yX7_asked : Cond.instanceMethod yX7_asked ∈ TS := ts_mem 1056 (by decide +kernel) rfl
theorem tw_s_yX7_asked : Cond.selects RX7 yX7_asked yX7_asked ∈ TS := ts_mem 29 (by decide +kernel) rfl
theorem tw_code_yX7_asks : Cond.code yX7_asks cX7_asks 3 none ∈ TS := ts_mem 1061 (by decide +kernel) rfl
theorem tw_inst_yX7_asks : Cond.instanceMethod yX7_asks ∈ TS := ts_mem 1060 (by decide +kernel) rfl
theorem tw_s_yX7_asks : Cond.selects RX7 yX7_asks yX7_asks ∈ TS := ts_mem 30 (by decide +kernel) rfl
theorem tw_m_RX7_127 : Cond.methodLink RX7 127 yX7_isAsked ∈ TS := ts_mem 1050 (by decide +kernel) rfl
theorem tw_m_RX7_131 : Cond.methodLink RX7 131 yX7_asked ∈ TS := ts_mem 1054 (by decide +kernel) rfl
theorem tw_m_RX7_134 : Cond.methodLink RX7 134 yX7_asks ∈ TS := ts_mem 1058 (by decide +kernel) rfl
theorem tw_code_yX7_ask : Cond.code yX7_ask cX7_ask 4 (some .int) ∈ TS := ts_mem 1049 (by decide +kernel) rfl
theorem tw_inst_yX7_ask : Cond.instanceMethod yX7_ask ∈ TS := ts_mem 1047 (by decide +kernel) rfl
theorem tw_s_yX7_ask : Cond.selects RX7 yX7_ask yX7_ask ∈ TS := ts_mem 1048 (by decide +kernel) rfl
theorem tw_code_yX7_tell : Cond.code yX7_tell cX7_tell 5 (some .int) ∈ TS := ts_mem 1065 (by decide +kernel) rfl
theorem tw_inst_yX7_tell : Cond.instanceMethod yX7_tell ∈ TS := ts_mem 1063 (by decide +kernel) rfl
theorem tw_s_yX7_tell : Cond.selects RX7 yX7_tell yX7_tell ∈ TS := ts_mem 1064 (by decide +kernel) rfl
theorem tw_code_yX7_comerOf : Cond.code yX7_comerOf cX7_comerOf 3 (some .int) ∈ TS := ts_mem 1069 (by decide +kernel) rfl
theorem tw_inst_yX7_comerOf : Cond.instanceMethod yX7_comerOf ∈ TS := ts_mem 1067 (by decide +kernel) rfl
theorem tw_s_yX7_comerOf : Cond.selects RX7 yX7_comerOf yX7_comerOf ∈ TS := ts_mem 1068 (by decide +kernel) rfl
theorem tw_code_yX7_wrong : Cond.code yX7_wrong cX7_wrong 2 (some .boolean) ∈ TS := ts_mem 1097 (by decide +kernel) rfl
theorem tw_inst_yX7_wrong : Cond.instanceMethod yX7_wrong ∈ TS := ts_mem 1096 (by decide +kernel) rfl
theorem tw_s_yX7_wrong : Cond.selects RX7 yX7_wrong yX7_wrong ∈ TS := ts_mem 36 (by decide +kernel) rfl
theorem tw_code_yX7_stands : Cond.code yX7_stands cX7_stands 4 (some .boolean) ∈ TS := ts_mem 1093 (by decide +kernel) rfl
theorem tw_inst_yX7_stands : Cond.instanceMethod yX7_stands ∈ TS := ts_mem 1092 (by decide +kernel) rfl
theorem tw_s_yX7_stands : Cond.selects RX7 yX7_stands yX7_stands ∈ TS := ts_mem 35 (by decide +kernel) rfl
theorem tw_code_yX7_word : Cond.code yX7_word cX7_word 6 (some .int) ∈ TS := ts_mem 1101 (by decide +kernel) rfl
theorem tw_inst_yX7_word : Cond.instanceMethod yX7_word ∈ TS := ts_mem 1100 (by decide +kernel) rfl
theorem tw_s_yX7_word : Cond.selects RX7 yX7_word yX7_word ∈ TS := ts_mem 37 (by decide +kernel) rfl
theorem tw_code_yX7_isDigit : Cond.code yX7_isDigit cX7_isDigit 1 (some .boolean) ∈ TS := ts_mem 1109 (by decide +kernel) rfl
theorem tw_inst_yX7_isDigit : Cond.instanceMethod yX7_isDigit ∈ TS := ts_mem 1108 (by decide +kernel) rfl
theorem tw_s_yX7_isDigit : Cond.selects RX7 yX7_isDigit yX7_isDigit ∈ TS := ts_mem 39 (by decide +kernel) rfl
theorem tw_m_RX7_153 : Cond.methodLink RX7 153 yX7_isDigit ∈ TS := ts_mem 1106 (by decide +kernel) rfl
theorem tw_m_RX7_157 : Cond.methodLink RX7 157 yX7_wrong ∈ TS := ts_mem 1094 (by decide +kernel) rfl
theorem tw_code_yX7_reads : Cond.code yX7_reads cX7_reads 2 (some .boolean) ∈ TS := ts_mem 1105 (by decide +kernel) rfl
theorem tw_inst_yX7_reads : Cond.instanceMethod yX7_reads ∈ TS := ts_mem 1104 (by decide +kernel) rfl
theorem tw_s_yX7_reads : Cond.selects RX7 yX7_reads yX7_reads ∈ TS := ts_mem 38 (by decide +kernel) rfl
theorem tw_code_yX7_isSo : Cond.code yX7_isSo cX7_isSo 3 (some .boolean) ∈ TS := ts_mem 1113 (by decide +kernel) rfl
theorem tw_inst_yX7_isSo : Cond.instanceMethod yX7_isSo ∈ TS := ts_mem 1112 (by decide +kernel) rfl
theorem tw_s_yX7_isSo : Cond.selects RX7 yX7_isSo yX7_isSo ∈ TS := ts_mem 40 (by decide +kernel) rfl
theorem tw_m_RX7_160 : Cond.methodLink RX7 160 yX7_stands ∈ TS := ts_mem 1090 (by decide +kernel) rfl
theorem tw_m_RX7_163 : Cond.methodLink RX7 163 yX7_word ∈ TS := ts_mem 1098 (by decide +kernel) rfl
theorem tw_m_RX7_167 : Cond.methodLink RX7 167 yX7_reads ∈ TS := ts_mem 1102 (by decide +kernel) rfl
theorem tw_m_RX7_170 : Cond.methodLink RX7 170 yX7_isSo ∈ TS := ts_mem 1110 (by decide +kernel) rfl
theorem tw_code_yX7_item : Cond.code yX7_item cX7_item 4 (some .boolean) ∈ TS := ts_mem 1089 (by decide +kernel) rfl
theorem tw_inst_yX7_item : Cond.instanceMethod yX7_item ∈ TS := ts_mem 1088 (by decide +kernel) rfl
theorem tw_s_yX7_item : Cond.selects RX7 yX7_item yX7_item ∈ TS := ts_mem 34 (by decide +kernel) rfl
theorem tw_code_yX7_carries : Cond.code yX7_carries cX7_carries 6 (some .int) ∈ TS := ts_mem 1085 (by decide +kernel) rfl
theorem tw_inst_yX7_carries : Cond.instanceMethod yX7_carries ∈ TS := ts_mem 1084 (by decide +kernel) rfl
theorem tw_s_yX7_carries : Cond.selects RX7 yX7_carries yX7_carries ∈ TS := ts_mem 33 (by decide +kernel) rfl
theorem tw_m_RX7_173 : Cond.methodLink RX7 173 yX7_carries ∈ TS := ts_mem 1082 (by decide +kernel) rfl
theorem tw_code_yX7_all : Cond.code yX7_all cX7_all 4 none ∈ TS := ts_mem 1081 (by decide +kernel) rfl
theorem tw_inst_yX7_all : Cond.instanceMethod yX7_all ∈ TS := ts_mem 1080 (by decide +kernel) rfl
theorem tw_s_yX7_all : Cond.selects RX7 yX7_all yX7_all ∈ TS := ts_mem 32 (by decide +kernel) rfl
theorem tw_m_RX7_180 : Cond.methodLink RX7 180 yX7_wanted ∈ TS := ts_mem 1074 (by decide +kernel) rfl
theorem tw_m_RX7_183 : Cond.methodLink RX7 183 yX7_all ∈ TS := ts_mem 1078 (by decide +kernel) rfl
theorem tw_m_RX7_187 : Cond.methodLink RX7 187 yX7_item ∈ TS := ts_mem 1086 (by decide +kernel) rfl
theorem tw_code_yX7_road : Cond.code yX7_road cX7_road 5 (some .int) ∈ TS := ts_mem 1073 (by decide +kernel) rfl
theorem tw_inst_yX7_road : Cond.instanceMethod yX7_road ∈ TS := ts_mem 1071 (by decide +kernel) rfl
theorem tw_s_yX7_road : Cond.selects RX7 yX7_road yX7_road ∈ TS := ts_mem 1072 (by decide +kernel) rfl
theorem tw_code_yX7_fault : Cond.code yX7_fault cX7_fault 1 (some .int) ∈ TS := ts_mem 1117 (by decide +kernel) rfl
theorem tw_inst_yX7_fault : Cond.instanceMethod yX7_fault ∈ TS := ts_mem 1115 (by decide +kernel) rfl
theorem tw_s_yX7_fault : Cond.selects RX7 yX7_fault yX7_fault ∈ TS := ts_mem 1116 (by decide +kernel) rfl
theorem tw_code_yX7_isBlind : Cond.code yX7_isBlind cX7_isBlind 2 (some .boolean) ∈ TS := ts_mem 1133 (by decide +kernel) rfl
theorem tw_inst_yX7_isBlind : Cond.instanceMethod yX7_isBlind ∈ TS := ts_mem 1132 (by decide +kernel) rfl
theorem tw_s_yX7_isBlind : Cond.selects RX7 yX7_isBlind yX7_isBlind ∈ TS := ts_mem 43 (by decide +kernel) rfl
theorem tw_code_yX7_looksOf : Cond.code yX7_looksOf cX7_looksOf 2 (some .int) ∈ TS := ts_mem 1125 (by decide +kernel) rfl
theorem tw_inst_yX7_looksOf : Cond.instanceMethod yX7_looksOf ∈ TS := ts_mem 1124 (by decide +kernel) rfl
theorem tw_s_yX7_looksOf : Cond.selects RX7 yX7_looksOf yX7_looksOf ∈ TS := ts_mem 41 (by decide +kernel) rfl
theorem tw_m_RX7_190 : Cond.methodLink RX7 190 yX7_isBlind ∈ TS := ts_mem 1130 (by decide +kernel) rfl
theorem tw_code_yX7_burden : Cond.code yX7_burden cX7_burden 3 (some .int) ∈ TS := ts_mem 1129 (by decide +kernel) rfl
theorem tw_inst_yX7_burden : Cond.instanceMethod yX7_burden ∈ TS := ts_mem 1128 (by decide +kernel) rfl
theorem tw_s_yX7_burden : Cond.selects RX7 yX7_burden yX7_burden ∈ TS := ts_mem 42 (by decide +kernel) rfl
theorem tw_code_yX7_courage : Cond.code yX7_courage cX7_courage 5 (some .int) ∈ TS := ts_mem 1153 (by decide +kernel) rfl
theorem tw_inst_yX7_courage : Cond.instanceMethod yX7_courage ∈ TS := ts_mem 1152 (by decide +kernel) rfl
theorem tw_s_yX7_courage : Cond.selects RX7 yX7_courage yX7_courage ∈ TS := ts_mem 47 (by decide +kernel) rfl
theorem tw_m_RX7_193 : Cond.methodLink RX7 193 yX7_courage ∈ TS := ts_mem 1150 (by decide +kernel) rfl
theorem tw_m_RX7_197 : Cond.methodLink RX7 197 yX7_burden ∈ TS := ts_mem 1126 (by decide +kernel) rfl
theorem tw_m_RX7_201 : Cond.methodLink RX7 201 yX7_looksOf ∈ TS := ts_mem 1122 (by decide +kernel) rfl
theorem tw_code_yX7_slowsAt : Cond.code yX7_slowsAt cX7_slowsAt 9 (some .int) ∈ TS := ts_mem 1149 (by decide +kernel) rfl
theorem tw_inst_yX7_slowsAt : Cond.instanceMethod yX7_slowsAt ∈ TS := ts_mem 1148 (by decide +kernel) rfl
theorem tw_s_yX7_slowsAt : Cond.selects RX7 yX7_slowsAt yX7_slowsAt ∈ TS := ts_mem 46 (by decide +kernel) rfl
theorem tw_m_RX7_204 : Cond.methodLink RX7 204 yX7_slowsAt ∈ TS := ts_mem 1146 (by decide +kernel) rfl
theorem tw_code_yX7_aloneIn : Cond.code yX7_aloneIn cX7_aloneIn 3 (some .int) ∈ TS := ts_mem 1145 (by decide +kernel) rfl
theorem tw_inst_yX7_aloneIn : Cond.instanceMethod yX7_aloneIn ∈ TS := ts_mem 1144 (by decide +kernel) rfl
theorem tw_s_yX7_aloneIn : Cond.selects RX7 yX7_aloneIn yX7_aloneIn ∈ TS := ts_mem 45 (by decide +kernel) rfl
theorem tw_m_RX7_208 : Cond.methodLink RX7 208 yX7_aloneIn ∈ TS := ts_mem 1142 (by decide +kernel) rfl
theorem tw_code_yX7_fogsOf : Cond.code yX7_fogsOf cX7_fogsOf 4 (some .int) ∈ TS := ts_mem 1161 (by decide +kernel) rfl
theorem tw_inst_yX7_fogsOf : Cond.instanceMethod yX7_fogsOf ∈ TS := ts_mem 1160 (by decide +kernel) rfl
theorem tw_s_yX7_fogsOf : Cond.selects RX7 yX7_fogsOf yX7_fogsOf ∈ TS := ts_mem 48 (by decide +kernel) rfl
theorem tw_code_yX7_looks : Cond.code yX7_looks cX7_looks 3 (some .int) ∈ TS := ts_mem 1121 (by decide +kernel) rfl
theorem tw_inst_yX7_looks : Cond.instanceMethod yX7_looks ∈ TS := ts_mem 1119 (by decide +kernel) rfl
theorem tw_s_yX7_looks : Cond.selects RX7 yX7_looks yX7_looks ∈ TS := ts_mem 1120 (by decide +kernel) rfl
theorem tw_m_RX7_211 : Cond.methodLink RX7 211 yX7_noTen ∈ TS := ts_mem 1138 (by decide +kernel) rfl
theorem tw_code_yX7_slow : Cond.code yX7_slow cX7_slow 3 (some .int) ∈ TS := ts_mem 1137 (by decide +kernel) rfl
theorem tw_inst_yX7_slow : Cond.instanceMethod yX7_slow ∈ TS := ts_mem 1135 (by decide +kernel) rfl
theorem tw_s_yX7_slow : Cond.selects RX7 yX7_slow yX7_slow ∈ TS := ts_mem 1136 (by decide +kernel) rfl
theorem tw_m_RX7_214 : Cond.methodLink RX7 214 yX7_fogsOf ∈ TS := ts_mem 1158 (by decide +kernel) rfl
theorem tw_code_yX7_brave : Cond.code yX7_brave cX7_brave 4 (some .int) ∈ TS := ts_mem 1157 (by decide +kernel) rfl
theorem tw_inst_yX7_brave : Cond.instanceMethod yX7_brave ∈ TS := ts_mem 1155 (by decide +kernel) rfl
theorem tw_s_yX7_brave : Cond.selects RX7 yX7_brave yX7_brave ∈ TS := ts_mem 1156 (by decide +kernel) rfl
theorem tw_code_yX7_goes : Cond.code yX7_goes cX7_goes 5 (some .int) ∈ TS := ts_mem 1177 (by decide +kernel) rfl
theorem tw_inst_yX7_goes : Cond.instanceMethod yX7_goes ∈ TS := ts_mem 1176 (by decide +kernel) rfl
theorem tw_s_yX7_goes : Cond.selects RX7 yX7_goes yX7_goes ∈ TS := ts_mem 51 (by decide +kernel) rfl
theorem tw_m_RX7_229 : Cond.methodLink RX7 229 yX7_goes ∈ TS := ts_mem 1174 (by decide +kernel) rfl
theorem tw_code_yX7_comes : Cond.code yX7_comes cX7_comes 6 none ∈ TS := ts_mem 1173 (by decide +kernel) rfl
theorem tw_inst_yX7_comes : Cond.instanceMethod yX7_comes ∈ TS := ts_mem 1172 (by decide +kernel) rfl
theorem tw_s_yX7_comes : Cond.selects RX7 yX7_comes yX7_comes ∈ TS := ts_mem 50 (by decide +kernel) rfl
theorem tw_code_yX7_setOf : Cond.code yX7_setOf cX7_setOf 5 (some .int) ∈ TS := ts_mem 1181 (by decide +kernel) rfl
theorem tw_inst_yX7_setOf : Cond.instanceMethod yX7_setOf ∈ TS := ts_mem 1180 (by decide +kernel) rfl
theorem tw_s_yX7_setOf : Cond.selects RX7 yX7_setOf yX7_setOf ∈ TS := ts_mem 52 (by decide +kernel) rfl
theorem tw_m_RX7_233 : Cond.methodLink RX7 233 yX7_intAt ∈ TS := ts_mem 1166 (by decide +kernel) rfl
theorem tw_m_RX7_236 : Cond.methodLink RX7 236 yX7_comes ∈ TS := ts_mem 1170 (by decide +kernel) rfl
theorem tw_m_RX7_240 : Cond.methodLink RX7 240 yX7_setOf ∈ TS := ts_mem 1178 (by decide +kernel) rfl
theorem tw_code_yX7_order : Cond.code yX7_order cX7_order 8 (some .int) ∈ TS := ts_mem 1165 (by decide +kernel) rfl
theorem tw_inst_yX7_order : Cond.instanceMethod yX7_order ∈ TS := ts_mem 1163 (by decide +kernel) rfl
theorem tw_s_yX7_order : Cond.selects RX7 yX7_order yX7_order ∈ TS := ts_mem 1164 (by decide +kernel) rfl
theorem tw_m_RX7_243 : Cond.methodLink RX7 243 yX7_lays ∈ TS := ts_mem 1186 (by decide +kernel) rfl
theorem tw_code_yX7_lays : Cond.code yX7_lays cX7_lays 4 none ∈ TS := ts_mem 1189 (by decide +kernel) rfl
theorem tw_inst_yX7_lays : Cond.instanceMethod yX7_lays ∈ TS := ts_mem 1188 (by decide +kernel) rfl
theorem tw_s_yX7_lays : Cond.selects RX7 yX7_lays yX7_lays ∈ TS := ts_mem 53 (by decide +kernel) rfl
theorem tw_code_yX7_best : Cond.code yX7_best cX7_best 2 (some .int) ∈ TS := ts_mem 1185 (by decide +kernel) rfl
theorem tw_inst_yX7_best : Cond.instanceMethod yX7_best ∈ TS := ts_mem 1183 (by decide +kernel) rfl
theorem tw_s_yX7_best : Cond.selects RX7 yX7_best yX7_best ∈ TS := ts_mem 1184 (by decide +kernel) rfl
theorem tw_code_yX7_pushes : Cond.code yX7_pushes cX7_pushes 7 (some .int) ∈ TS := ts_mem 1193 (by decide +kernel) rfl
theorem tw_inst_yX7_pushes : Cond.instanceMethod yX7_pushes ∈ TS := ts_mem 1191 (by decide +kernel) rfl
theorem tw_s_yX7_pushes : Cond.selects RX7 yX7_pushes yX7_pushes ∈ TS := ts_mem 1192 (by decide +kernel) rfl
theorem tw_code_yX7_practise : Cond.code yX7_practise cX7_practise 9 (some .int) ∈ TS := ts_mem 1197 (by decide +kernel) rfl
theorem tw_inst_yX7_practise : Cond.instanceMethod yX7_practise ∈ TS := ts_mem 1195 (by decide +kernel) rfl
theorem tw_s_yX7_practise : Cond.selects RX7 yX7_practise yX7_practise ∈ TS := ts_mem 1196 (by decide +kernel) rfl
theorem tw_code_yX7_barsOfTwos : Cond.code yX7_barsOfTwos cX7_barsOfTwos 6 (some .int) ∈ TS := ts_mem 1205 (by decide +kernel) rfl
theorem tw_inst_yX7_barsOfTwos : Cond.instanceMethod yX7_barsOfTwos ∈ TS := ts_mem 1204 (by decide +kernel) rfl
theorem tw_s_yX7_barsOfTwos : Cond.selects RX7 yX7_barsOfTwos yX7_barsOfTwos ∈ TS := ts_mem 54 (by decide +kernel) rfl
theorem tw_code_yX7_slowsBy : Cond.code yX7_slowsBy cX7_slowsBy 6 (some .int) ∈ TS := ts_mem 1213 (by decide +kernel) rfl
theorem tw_inst_yX7_slowsBy : Cond.instanceMethod yX7_slowsBy ∈ TS := ts_mem 1212 (by decide +kernel) rfl
theorem tw_s_yX7_slowsBy : Cond.selects RX7 yX7_slowsBy yX7_slowsBy ∈ TS := ts_mem 56 (by decide +kernel) rfl
theorem tw_m_RX7_252 : Cond.methodLink RX7 252 yX7_slowsBy ∈ TS := ts_mem 1210 (by decide +kernel) rfl
theorem tw_code_yX7_fitting : Cond.code yX7_fitting cX7_fitting 8 (some .int) ∈ TS := ts_mem 1209 (by decide +kernel) rfl
theorem tw_inst_yX7_fitting : Cond.instanceMethod yX7_fitting ∈ TS := ts_mem 1208 (by decide +kernel) rfl
theorem tw_s_yX7_fitting : Cond.selects RX7 yX7_fitting yX7_fitting ∈ TS := ts_mem 55 (by decide +kernel) rfl
theorem tw_m_RX7_255 : Cond.methodLink RX7 255 yX7_barsOfTwos ∈ TS := ts_mem 1202 (by decide +kernel) rfl
theorem tw_m_RX7_258 : Cond.methodLink RX7 258 yX7_fitting ∈ TS := ts_mem 1206 (by decide +kernel) rfl
theorem tw_code_yX7_fits : Cond.code yX7_fits cX7_fits 5 (some .int) ∈ TS := ts_mem 1201 (by decide +kernel) rfl
theorem tw_inst_yX7_fits : Cond.instanceMethod yX7_fits ∈ TS := ts_mem 1199 (by decide +kernel) rfl
theorem tw_s_yX7_fits : Cond.selects RX7 yX7_fits yX7_fits ∈ TS := ts_mem 1200 (by decide +kernel) rfl
theorem tw_code_yX7_next : Cond.code yX7_next cX7_next 12 (some .int) ∈ TS := ts_mem 1217 (by decide +kernel) rfl
theorem tw_inst_yX7_next : Cond.instanceMethod yX7_next ∈ TS := ts_mem 1215 (by decide +kernel) rfl
theorem tw_s_yX7_next : Cond.selects RX7 yX7_next yX7_next ∈ TS := ts_mem 1216 (by decide +kernel) rfl
theorem tw_code_yX7_leader : Cond.code yX7_leader cX7_leader 7 (some .int) ∈ TS := ts_mem 1221 (by decide +kernel) rfl
theorem tw_inst_yX7_leader : Cond.instanceMethod yX7_leader ∈ TS := ts_mem 1219 (by decide +kernel) rfl
theorem tw_s_yX7_leader : Cond.selects RX7 yX7_leader yX7_leader ∈ TS := ts_mem 1220 (by decide +kernel) rfl
theorem tw_code_yX7_rest : Cond.code yX7_rest cX7_rest 2 (some .int) ∈ TS := ts_mem 1225 (by decide +kernel) rfl
theorem tw_inst_yX7_rest : Cond.instanceMethod yX7_rest ∈ TS := ts_mem 1223 (by decide +kernel) rfl
theorem tw_s_yX7_rest : Cond.selects RX7 yX7_rest yX7_rest ∈ TS := ts_mem 1224 (by decide +kernel) rfl
theorem tw_l_RX7_261 : Cond.constantLong RX7 261 1000 ∈ TS := ts_mem 1230 (by decide +kernel) rfl
theorem tw_code_yX7_painted : Cond.code yX7_painted cX7_painted 7 (some .int) ∈ TS := ts_mem 1229 (by decide +kernel) rfl
theorem tw_inst_yX7_painted : Cond.instanceMethod yX7_painted ∈ TS := ts_mem 1227 (by decide +kernel) rfl
theorem tw_s_yX7_painted : Cond.selects RX7 yX7_painted yX7_painted ∈ TS := ts_mem 1228 (by decide +kernel) rfl
theorem tw_code_yX7_toldOf : Cond.code yX7_toldOf cX7_toldOf 2 (some .int) ∈ TS := ts_mem 1246 (by decide +kernel) rfl
theorem tw_inst_yX7_toldOf : Cond.instanceMethod yX7_toldOf ∈ TS := ts_mem 1245 (by decide +kernel) rfl
theorem tw_s_yX7_toldOf : Cond.selects RX7 yX7_toldOf yX7_toldOf ∈ TS := ts_mem 59 (by decide +kernel) rfl
theorem tw_m_RX7_263 : Cond.methodLink RX7 263 yX7_toldOf ∈ TS := ts_mem 1243 (by decide +kernel) rfl
theorem tw_code_yX7_wrongIn : Cond.code yX7_wrongIn cX7_wrongIn 9 (some .int) ∈ TS := ts_mem 1242 (by decide +kernel) rfl
theorem tw_inst_yX7_wrongIn : Cond.instanceMethod yX7_wrongIn ∈ TS := ts_mem 1241 (by decide +kernel) rfl
theorem tw_s_yX7_wrongIn : Cond.selects RX7 yX7_wrongIn yX7_wrongIn ∈ TS := ts_mem 58 (by decide +kernel) rfl
theorem tw_code_yX7_barsOfDay : Cond.code yX7_barsOfDay cX7_barsOfDay 4 (some .int) ∈ TS := ts_mem 1238 (by decide +kernel) rfl
theorem tw_inst_yX7_barsOfDay : Cond.instanceMethod yX7_barsOfDay ∈ TS := ts_mem 1237 (by decide +kernel) rfl
theorem tw_s_yX7_barsOfDay : Cond.selects RX7 yX7_barsOfDay yX7_barsOfDay ∈ TS := ts_mem 57 (by decide +kernel) rfl
theorem tw_m_RX7_266 : Cond.methodLink RX7 266 yX7_barsOfDay ∈ TS := ts_mem 1235 (by decide +kernel) rfl
theorem tw_m_RX7_269 : Cond.methodLink RX7 269 yX7_wrongIn ∈ TS := ts_mem 1239 (by decide +kernel) rfl
theorem tw_code_yX7_judge : Cond.code yX7_judge cX7_judge 4 (some .int) ∈ TS := ts_mem 1234 (by decide +kernel) rfl
theorem tw_inst_yX7_judge : Cond.instanceMethod yX7_judge ∈ TS := ts_mem 1232 (by decide +kernel) rfl
theorem tw_s_yX7_judge : Cond.selects RX7 yX7_judge yX7_judge ∈ TS := ts_mem 1233 (by decide +kernel) rfl
theorem tw_code_yX7_behind : Cond.code yX7_behind cX7_behind 5 (some .int) ∈ TS := ts_mem 1250 (by decide +kernel) rfl
theorem tw_inst_yX7_behind : Cond.instanceMethod yX7_behind ∈ TS := ts_mem 1248 (by decide +kernel) rfl
theorem tw_s_yX7_behind : Cond.selects RX7 yX7_behind yX7_behind ∈ TS := ts_mem 1249 (by decide +kernel) rfl
theorem tw_code_yX7_passes : Cond.code yX7_passes cX7_passes 4 none ∈ TS := ts_mem 1258 (by decide +kernel) rfl
theorem tw_inst_yX7_passes : Cond.instanceMethod yX7_passes ∈ TS := ts_mem 1257 (by decide +kernel) rfl
theorem tw_s_yX7_passes : Cond.selects RX7 yX7_passes yX7_passes ∈ TS := ts_mem 60 (by decide +kernel) rfl
theorem tw_m_RX7_272 : Cond.methodLink RX7 272 yX7_passes ∈ TS := ts_mem 1255 (by decide +kernel) rfl
theorem tw_code_yX7_done : Cond.code yX7_done cX7_done 4 (some .int) ∈ TS := ts_mem 1254 (by decide +kernel) rfl
theorem tw_inst_yX7_done : Cond.instanceMethod yX7_done ∈ TS := ts_mem 1252 (by decide +kernel) rfl
theorem tw_s_yX7_done : Cond.selects RX7 yX7_done yX7_done ∈ TS := ts_mem 1253 (by decide +kernel) rfl
theorem tw_c_RX7_275 : Cond.constant RX7 275 1103515245 ∈ TS := ts_mem 1267 (by decide +kernel) rfl
theorem tw_code_yX7_draw : Cond.code yX7_draw cX7_draw 2 (some .int) ∈ TS := ts_mem 1266 (by decide +kernel) rfl
theorem tw_inst_yX7_draw : Cond.instanceMethod yX7_draw ∈ TS := ts_mem 1265 (by decide +kernel) rfl
theorem tw_s_yX7_draw : Cond.selects RX7 yX7_draw yX7_draw ∈ TS := ts_mem 61 (by decide +kernel) rfl
theorem tw_m_RX7_276 : Cond.methodLink RX7 276 yX7_draw ∈ TS := ts_mem 1263 (by decide +kernel) rfl
theorem tw_code_yX7_days : Cond.code yX7_days cX7_days 5 (some .int) ∈ TS := ts_mem 1262 (by decide +kernel) rfl
theorem tw_inst_yX7_days : Cond.instanceMethod yX7_days ∈ TS := ts_mem 1260 (by decide +kernel) rfl
theorem tw_s_yX7_days : Cond.selects RX7 yX7_days yX7_days ∈ TS := ts_mem 1261 (by decide +kernel) rfl
theorem tw_code_yX7_seed : Cond.code yX7_seed cX7_seed 3 (some .int) ∈ TS := ts_mem 1271 (by decide +kernel) rfl
theorem tw_inst_yX7_seed : Cond.instanceMethod yX7_seed ∈ TS := ts_mem 1269 (by decide +kernel) rfl
theorem tw_s_yX7_seed : Cond.selects RX7 yX7_seed yX7_seed ∈ TS := ts_mem 1270 (by decide +kernel) rfl
theorem tw_code_yX7_body : Cond.code yX7_body cX7_body 2 none ∈ TS := ts_mem 1283 (by decide +kernel) rfl
theorem tw_inst_yX7_body : Cond.instanceMethod yX7_body ∈ TS := ts_mem 1282 (by decide +kernel) rfl
theorem tw_s_yX7_body : Cond.selects RX7 yX7_body yX7_body ∈ TS := ts_mem 63 (by decide +kernel) rfl
theorem tw_m_RX7_282 : Cond.methodLink RX7 282 yX7_body ∈ TS := ts_mem 1280 (by decide +kernel) rfl
theorem tw_code_yX7_walking : Cond.code yX7_walking cX7_walking 6 (some .int) ∈ TS := ts_mem 1279 (by decide +kernel) rfl
theorem tw_inst_yX7_walking : Cond.instanceMethod yX7_walking ∈ TS := ts_mem 1278 (by decide +kernel) rfl
theorem tw_s_yX7_walking : Cond.selects RX7 yX7_walking yX7_walking ∈ TS := ts_mem 62 (by decide +kernel) rfl
theorem tw_m_RX7_285 : Cond.methodLink RX7 285 yX7_walking ∈ TS := ts_mem 1276 (by decide +kernel) rfl
theorem tw_code_yX7_looking : Cond.code yX7_looking cX7_looking 5 (some .int) ∈ TS := ts_mem 1287 (by decide +kernel) rfl
theorem tw_inst_yX7_looking : Cond.instanceMethod yX7_looking ∈ TS := ts_mem 1286 (by decide +kernel) rfl
theorem tw_s_yX7_looking : Cond.selects RX7 yX7_looking yX7_looking ∈ TS := ts_mem 64 (by decide +kernel) rfl
theorem tw_m_RX7_288 : Cond.methodLink RX7 288 yX7_looking ∈ TS := ts_mem 1284 (by decide +kernel) rfl
theorem tw_code_yX7_stopping : Cond.code yX7_stopping cX7_stopping 5 (some .int) ∈ TS := ts_mem 1291 (by decide +kernel) rfl
theorem tw_inst_yX7_stopping : Cond.instanceMethod yX7_stopping ∈ TS := ts_mem 1290 (by decide +kernel) rfl
theorem tw_s_yX7_stopping : Cond.selects RX7 yX7_stopping yX7_stopping ∈ TS := ts_mem 65 (by decide +kernel) rfl
theorem tw_m_RX7_291 : Cond.methodLink RX7 291 yX7_stopping ∈ TS := ts_mem 1288 (by decide +kernel) rfl
theorem tw_code_yX7_act : Cond.code yX7_act cX7_act 4 (some .int) ∈ TS := ts_mem 1275 (by decide +kernel) rfl
theorem tw_inst_yX7_act : Cond.instanceMethod yX7_act ∈ TS := ts_mem 1273 (by decide +kernel) rfl
theorem tw_s_yX7_act : Cond.selects RX7 yX7_act yX7_act ∈ TS := ts_mem 1274 (by decide +kernel) rfl
theorem tw_code_yX7_trace : Cond.code yX7_trace cX7_trace 2 (some .int) ∈ TS := ts_mem 1295 (by decide +kernel) rfl
theorem tw_inst_yX7_trace : Cond.instanceMethod yX7_trace ∈ TS := ts_mem 1293 (by decide +kernel) rfl
theorem tw_s_yX7_trace : Cond.selects RX7 yX7_trace yX7_trace ∈ TS := ts_mem 1294 (by decide +kernel) rfl
theorem tw_code_yX7_image : Cond.code yX7_image cX7_image 1 (some .int) ∈ TS := ts_mem 1299 (by decide +kernel) rfl
theorem tw_inst_yX7_image : Cond.instanceMethod yX7_image ∈ TS := ts_mem 1297 (by decide +kernel) rfl
theorem tw_s_yX7_image : Cond.selects RX7 yX7_image yX7_image ∈ TS := ts_mem 1298 (by decide +kernel) rfl
theorem tw_code_yX7_restore : Cond.code yX7_restore cX7_restore 2 (some .int) ∈ TS := ts_mem 1303 (by decide +kernel) rfl
theorem tw_inst_yX7_restore : Cond.instanceMethod yX7_restore ∈ TS := ts_mem 1301 (by decide +kernel) rfl
theorem tw_s_yX7_restore : Cond.selects RX7 yX7_restore yX7_restore ∈ TS := ts_mem 1302 (by decide +kernel) rfl
theorem tw_code_yX7_together : Cond.code yX7_together cX7_together 4 (some .int) ∈ TS := ts_mem 1311 (by decide +kernel) rfl
theorem tw_inst_yX7_together : Cond.instanceMethod yX7_together ∈ TS := ts_mem 1310 (by decide +kernel) rfl
theorem tw_s_yX7_together : Cond.selects RX7 yX7_together yX7_together ∈ TS := ts_mem 66 (by decide +kernel) rfl
theorem tw_m_RX7_298 : Cond.methodLink RX7 298 yX7_together ∈ TS := ts_mem 1308 (by decide +kernel) rfl
theorem tw_code_yX7_status : Cond.code yX7_status cX7_status 2 (some .int) ∈ TS := ts_mem 1307 (by decide +kernel) rfl
theorem tw_inst_yX7_status : Cond.instanceMethod yX7_status ∈ TS := ts_mem 1305 (by decide +kernel) rfl
theorem tw_s_yX7_status : Cond.selects RX7 yX7_status yX7_status ∈ TS := ts_mem 1306 (by decide +kernel) rfl
