theorem u_inX0 : ∀ w ∈ u_ws RX0 TX0 9, w ∈ tb := by decide +kernel
theorem u_inX1 : ∀ w ∈ u_ws RX1 TX1 8, w ∈ tb := by decide +kernel
theorem u_inX2 : ∀ w ∈ u_ws RX2 TX2 5, w ∈ tb := by decide +kernel
theorem u_inX3 : ∀ w ∈ u_ws RX3 TX3 2, w ∈ tb := by decide +kernel
theorem u_inX4 : ∀ w ∈ u_ws RX4 TX4 5, w ∈ tb := by decide +kernel
theorem u_inX5 : ∀ w ∈ u_ws RX5 TX5 3, w ∈ tb := by decide +kernel
theorem u_inX6 : ∀ w ∈ u_ws RX6 TX6 2, w ∈ tb := by decide +kernel
theorem u_inX7 : ∀ w ∈ u_ws RX7 TX7 12, w ∈ tb := by decide +kernel
theorem u_inX8 : ∀ w ∈ u_ws RX8 TX8 33, w ∈ tb := by decide +kernel
theorem tw79 : Cond.fieldLink RX3 13 "AsWithTheLast$Numbers" "items" "[I" ∈ tb := tb_in (List.mem_of_getElem? (i := 79) (by decide +kernel)) rfl
theorem flX3_13 : f_FL RX3 13 3 0 := ⟨_, _, _, rfl, u_inX3, by decide, Or.inl tw79⟩
theorem tw80 : Cond.fieldLink RX3 19 "AsWithTheLast$Numbers" "size" "I" ∈ tb := tb_in (List.mem_of_getElem? (i := 80) (by decide +kernel)) rfl
theorem flX3_19 : f_FL RX3 19 3 1 := ⟨_, _, _, rfl, u_inX3, by decide, Or.inl tw80⟩
theorem fpX3_19 : f_FP RX3 19 3 1 := ⟨_, _, _, rfl, u_inX3, by decide, Or.inl tw80, ⟨_, tyX3_ok⟩, nmX3, rfl, by decide +kernel⟩
theorem tw95 : Cond.fieldLink RX1 14 "AsWithTheLast$Lesson" "marks" "LAsWithTheLast$Numbers;" ∈ tb := tb_in (List.mem_of_getElem? (i := 95) (by decide +kernel)) rfl
theorem flX1_14 : f_FL RX1 14 1 0 := ⟨_, _, _, rfl, u_inX1, by decide, Or.inl tw95⟩
theorem tw96 : Cond.fieldLinkNest RX7 125 "AsWithTheLast$Lesson" "marks" "LAsWithTheLast$Numbers;" "AsWithTheLast" ∈ nw := nw_in (List.mem_of_getElem? (i := 96) (by decide +kernel)) rfl
theorem flX7_125 : f_FL RX7 125 1 0 := ⟨_, _, _, rfl, u_inX1, by decide, Or.inr ⟨_, tw96⟩⟩
theorem tw97 : Cond.fieldLinkNest RX0 72 "AsWithTheLast$Lesson" "marks" "LAsWithTheLast$Numbers;" "AsWithTheLast" ∈ nw := nw_in (List.mem_of_getElem? (i := 97) (by decide +kernel)) rfl
theorem flX0_72 : f_FL RX0 72 1 0 := ⟨_, _, _, rfl, u_inX1, by decide, Or.inr ⟨_, tw97⟩⟩
theorem tw98 : Cond.fieldLinkNest RX5 80 "AsWithTheLast$Lesson" "marks" "LAsWithTheLast$Numbers;" "AsWithTheLast" ∈ nw := nw_in (List.mem_of_getElem? (i := 98) (by decide +kernel)) rfl
theorem flX5_80 : f_FL RX5 80 1 0 := ⟨_, _, _, rfl, u_inX1, by decide, Or.inr ⟨_, tw98⟩⟩
theorem tw99 : Cond.fieldLink RX1 20 "AsWithTheLast$Lesson" "right" "LAsWithTheLast$Numbers;" ∈ tb := tb_in (List.mem_of_getElem? (i := 99) (by decide +kernel)) rfl
theorem flX1_20 : f_FL RX1 20 1 1 := ⟨_, _, _, rfl, u_inX1, by decide, Or.inl tw99⟩
theorem tw100 : Cond.fieldLinkNest RX2 68 "AsWithTheLast$Lesson" "right" "LAsWithTheLast$Numbers;" "AsWithTheLast" ∈ nw := nw_in (List.mem_of_getElem? (i := 100) (by decide +kernel)) rfl
theorem flX2_68 : f_FL RX2 68 1 1 := ⟨_, _, _, rfl, u_inX1, by decide, Or.inr ⟨_, tw100⟩⟩
theorem tw101 : Cond.fieldLinkNest RX7 132 "AsWithTheLast$Lesson" "right" "LAsWithTheLast$Numbers;" "AsWithTheLast" ∈ nw := nw_in (List.mem_of_getElem? (i := 101) (by decide +kernel)) rfl
theorem flX7_132 : f_FL RX7 132 1 1 := ⟨_, _, _, rfl, u_inX1, by decide, Or.inr ⟨_, tw101⟩⟩
theorem tw102 : Cond.fieldLinkNest RX0 91 "AsWithTheLast$Lesson" "right" "LAsWithTheLast$Numbers;" "AsWithTheLast" ∈ nw := nw_in (List.mem_of_getElem? (i := 102) (by decide +kernel)) rfl
theorem flX0_91 : f_FL RX0 91 1 1 := ⟨_, _, _, rfl, u_inX1, by decide, Or.inr ⟨_, tw102⟩⟩
theorem tw103 : Cond.fieldLinkNest RX5 90 "AsWithTheLast$Lesson" "right" "LAsWithTheLast$Numbers;" "AsWithTheLast" ∈ nw := nw_in (List.mem_of_getElem? (i := 103) (by decide +kernel)) rfl
theorem flX5_90 : f_FL RX5 90 1 1 := ⟨_, _, _, rfl, u_inX1, by decide, Or.inr ⟨_, tw103⟩⟩
theorem tw104 : Cond.fieldLink RX1 23 "AsWithTheLast$Lesson" "spoilers" "LAsWithTheLast$Numbers;" ∈ tb := tb_in (List.mem_of_getElem? (i := 104) (by decide +kernel)) rfl
theorem flX1_23 : f_FL RX1 23 1 2 := ⟨_, _, _, rfl, u_inX1, by decide, Or.inl tw104⟩
theorem tw105 : Cond.fieldLinkNest RX7 135 "AsWithTheLast$Lesson" "spoilers" "LAsWithTheLast$Numbers;" "AsWithTheLast" ∈ nw := nw_in (List.mem_of_getElem? (i := 105) (by decide +kernel)) rfl
theorem flX7_135 : f_FL RX7 135 1 2 := ⟨_, _, _, rfl, u_inX1, by decide, Or.inr ⟨_, tw105⟩⟩
theorem tw106 : Cond.fieldLinkNest RX5 93 "AsWithTheLast$Lesson" "spoilers" "LAsWithTheLast$Numbers;" "AsWithTheLast" ∈ nw := nw_in (List.mem_of_getElem? (i := 106) (by decide +kernel)) rfl
theorem flX5_93 : f_FL RX5 93 1 2 := ⟨_, _, _, rfl, u_inX1, by decide, Or.inr ⟨_, tw106⟩⟩
theorem tw107 : Cond.fieldLink RX1 26 "AsWithTheLast$Lesson" "worth" "LAsWithTheLast$Numbers;" ∈ tb := tb_in (List.mem_of_getElem? (i := 107) (by decide +kernel)) rfl
theorem flX1_26 : f_FL RX1 26 1 3 := ⟨_, _, _, rfl, u_inX1, by decide, Or.inl tw107⟩
theorem tw108 : Cond.fieldLinkNest RX7 138 "AsWithTheLast$Lesson" "worth" "LAsWithTheLast$Numbers;" "AsWithTheLast" ∈ nw := nw_in (List.mem_of_getElem? (i := 108) (by decide +kernel)) rfl
theorem flX7_138 : f_FL RX7 138 1 3 := ⟨_, _, _, rfl, u_inX1, by decide, Or.inr ⟨_, tw108⟩⟩
theorem tw109 : Cond.fieldLinkNest RX5 96 "AsWithTheLast$Lesson" "worth" "LAsWithTheLast$Numbers;" "AsWithTheLast" ∈ nw := nw_in (List.mem_of_getElem? (i := 109) (by decide +kernel)) rfl
theorem flX5_96 : f_FL RX5 96 1 3 := ⟨_, _, _, rfl, u_inX1, by decide, Or.inr ⟨_, tw109⟩⟩
theorem tw110 : Cond.fieldLink RX1 29 "AsWithTheLast$Lesson" "chance" "LAsWithTheLast$Numbers;" ∈ tb := tb_in (List.mem_of_getElem? (i := 110) (by decide +kernel)) rfl
theorem flX1_29 : f_FL RX1 29 1 4 := ⟨_, _, _, rfl, u_inX1, by decide, Or.inl tw110⟩
theorem tw111 : Cond.fieldLinkNest RX7 141 "AsWithTheLast$Lesson" "chance" "LAsWithTheLast$Numbers;" "AsWithTheLast" ∈ nw := nw_in (List.mem_of_getElem? (i := 111) (by decide +kernel)) rfl
theorem flX7_141 : f_FL RX7 141 1 4 := ⟨_, _, _, rfl, u_inX1, by decide, Or.inr ⟨_, tw111⟩⟩
theorem tw112 : Cond.fieldLinkNest RX5 99 "AsWithTheLast$Lesson" "chance" "LAsWithTheLast$Numbers;" "AsWithTheLast" ∈ nw := nw_in (List.mem_of_getElem? (i := 112) (by decide +kernel)) rfl
theorem flX5_99 : f_FL RX5 99 1 4 := ⟨_, _, _, rfl, u_inX1, by decide, Or.inr ⟨_, tw112⟩⟩
theorem tw113 : Cond.fieldLink RX1 32 "AsWithTheLast$Lesson" "errands" "LAsWithTheLast$Numbers;" ∈ tb := tb_in (List.mem_of_getElem? (i := 113) (by decide +kernel)) rfl
theorem flX1_32 : f_FL RX1 32 1 5 := ⟨_, _, _, rfl, u_inX1, by decide, Or.inl tw113⟩
theorem tw114 : Cond.fieldLinkNest RX4 34 "AsWithTheLast$Lesson" "errands" "LAsWithTheLast$Numbers;" "AsWithTheLast" ∈ nw := nw_in (List.mem_of_getElem? (i := 114) (by decide +kernel)) rfl
theorem flX4_34 : f_FL RX4 34 1 5 := ⟨_, _, _, rfl, u_inX1, by decide, Or.inr ⟨_, tw114⟩⟩
theorem tw115 : Cond.fieldLinkNest RX7 147 "AsWithTheLast$Lesson" "errands" "LAsWithTheLast$Numbers;" "AsWithTheLast" ∈ nw := nw_in (List.mem_of_getElem? (i := 115) (by decide +kernel)) rfl
theorem flX7_147 : f_FL RX7 147 1 5 := ⟨_, _, _, rfl, u_inX1, by decide, Or.inr ⟨_, tw115⟩⟩
theorem tw116 : Cond.fieldLinkNest RX0 94 "AsWithTheLast$Lesson" "errands" "LAsWithTheLast$Numbers;" "AsWithTheLast" ∈ nw := nw_in (List.mem_of_getElem? (i := 116) (by decide +kernel)) rfl
theorem flX0_94 : f_FL RX0 94 1 5 := ⟨_, _, _, rfl, u_inX1, by decide, Or.inr ⟨_, tw116⟩⟩
theorem tw117 : Cond.fieldLinkNest RX5 105 "AsWithTheLast$Lesson" "errands" "LAsWithTheLast$Numbers;" "AsWithTheLast" ∈ nw := nw_in (List.mem_of_getElem? (i := 117) (by decide +kernel)) rfl
theorem flX5_105 : f_FL RX5 105 1 5 := ⟨_, _, _, rfl, u_inX1, by decide, Or.inr ⟨_, tw117⟩⟩
theorem tw118 : Cond.fieldLink RX1 50 "AsWithTheLast$Lesson" "sort" "I" ∈ tb := tb_in (List.mem_of_getElem? (i := 118) (by decide +kernel)) rfl
theorem flX1_50 : f_FL RX1 50 1 6 := ⟨_, _, _, rfl, u_inX1, by decide, Or.inl tw118⟩
theorem fpX1_50 : f_FP RX1 50 1 6 := ⟨_, _, _, rfl, u_inX1, by decide, Or.inl tw118, ⟨_, tyX1_ok⟩, nmX1, rfl, by decide +kernel⟩
theorem tw119 : Cond.fieldLinkNest RX5 64 "AsWithTheLast$Lesson" "sort" "I" "AsWithTheLast" ∈ nw := nw_in (List.mem_of_getElem? (i := 119) (by decide +kernel)) rfl
theorem flX5_64 : f_FL RX5 64 1 6 := ⟨_, _, _, rfl, u_inX1, by decide, Or.inr ⟨_, tw119⟩⟩
theorem fpX5_64 : f_FP RX5 64 1 6 := ⟨_, _, _, rfl, u_inX1, by decide, Or.inr ⟨_, tw119⟩, ⟨_, tyX1_ok⟩, nmX1, rfl, by decide +kernel⟩
theorem tw120 : Cond.fieldLinkNest RX7 167 "AsWithTheLast$Lesson" "sort" "I" "AsWithTheLast" ∈ nw := nw_in (List.mem_of_getElem? (i := 120) (by decide +kernel)) rfl
theorem flX7_167 : f_FL RX7 167 1 6 := ⟨_, _, _, rfl, u_inX1, by decide, Or.inr ⟨_, tw120⟩⟩
theorem fpX7_167 : f_FP RX7 167 1 6 := ⟨_, _, _, rfl, u_inX1, by decide, Or.inr ⟨_, tw120⟩, ⟨_, tyX1_ok⟩, nmX1, rfl, by decide +kernel⟩
theorem tw121 : Cond.fieldLink RX1 54 "AsWithTheLast$Lesson" "first" "I" ∈ tb := tb_in (List.mem_of_getElem? (i := 121) (by decide +kernel)) rfl
theorem flX1_54 : f_FL RX1 54 1 7 := ⟨_, _, _, rfl, u_inX1, by decide, Or.inl tw121⟩
theorem fpX1_54 : f_FP RX1 54 1 7 := ⟨_, _, _, rfl, u_inX1, by decide, Or.inl tw121, ⟨_, tyX1_ok⟩, nmX1, rfl, by decide +kernel⟩
theorem tw122 : Cond.fieldLinkNest RX5 71 "AsWithTheLast$Lesson" "first" "I" "AsWithTheLast" ∈ nw := nw_in (List.mem_of_getElem? (i := 122) (by decide +kernel)) rfl
theorem flX5_71 : f_FL RX5 71 1 7 := ⟨_, _, _, rfl, u_inX1, by decide, Or.inr ⟨_, tw122⟩⟩
theorem fpX5_71 : f_FP RX5 71 1 7 := ⟨_, _, _, rfl, u_inX1, by decide, Or.inr ⟨_, tw122⟩, ⟨_, tyX1_ok⟩, nmX1, rfl, by decide +kernel⟩
theorem tw123 : Cond.fieldLinkNest RX7 223 "AsWithTheLast$Lesson" "first" "I" "AsWithTheLast" ∈ nw := nw_in (List.mem_of_getElem? (i := 123) (by decide +kernel)) rfl
theorem flX7_223 : f_FL RX7 223 1 7 := ⟨_, _, _, rfl, u_inX1, by decide, Or.inr ⟨_, tw123⟩⟩
theorem fpX7_223 : f_FP RX7 223 1 7 := ⟨_, _, _, rfl, u_inX1, by decide, Or.inr ⟨_, tw123⟩, ⟨_, tyX1_ok⟩, nmX1, rfl, by decide +kernel⟩
theorem tw149 : Cond.fieldLink RX5 20 "AsWithTheLast$Reader" "text" "LAsWithTheLast$Numbers;" ∈ tb := tb_in (List.mem_of_getElem? (i := 149) (by decide +kernel)) rfl
theorem flX5_20 : f_FL RX5 20 5 0 := ⟨_, _, _, rfl, u_inX5, by decide, Or.inl tw149⟩
theorem tw150 : Cond.fieldLink RX5 23 "AsWithTheLast$Reader" "lesson" "LAsWithTheLast$Lesson;" ∈ tb := tb_in (List.mem_of_getElem? (i := 150) (by decide +kernel)) rfl
theorem flX5_23 : f_FL RX5 23 5 1 := ⟨_, _, _, rfl, u_inX5, by decide, Or.inl tw150⟩
theorem tw151 : Cond.fieldLink RX5 14 "AsWithTheLast$Reader" "numbers" "LAsWithTheLast$Numbers;" ∈ tb := tb_in (List.mem_of_getElem? (i := 151) (by decide +kernel)) rfl
theorem flX5_14 : f_FL RX5 14 5 2 := ⟨_, _, _, rfl, u_inX5, by decide, Or.inl tw151⟩
theorem tw175 : Cond.fieldLink RX2 14 "AsWithTheLast$Memory" "words" "LAsWithTheLast$Numbers;" ∈ tb := tb_in (List.mem_of_getElem? (i := 175) (by decide +kernel)) rfl
theorem flX2_14 : f_FL RX2 14 2 0 := ⟨_, _, _, rfl, u_inX2, by decide, Or.inl tw175⟩
theorem tw176 : Cond.fieldLinkNest RX7 150 "AsWithTheLast$Memory" "words" "LAsWithTheLast$Numbers;" "AsWithTheLast" ∈ nw := nw_in (List.mem_of_getElem? (i := 176) (by decide +kernel)) rfl
theorem flX7_150 : f_FL RX7 150 2 0 := ⟨_, _, _, rfl, u_inX2, by decide, Or.inr ⟨_, tw176⟩⟩
theorem tw177 : Cond.fieldLink RX2 20 "AsWithTheLast$Memory" "handed" "LAsWithTheLast$Numbers;" ∈ tb := tb_in (List.mem_of_getElem? (i := 177) (by decide +kernel)) rfl
theorem flX2_20 : f_FL RX2 20 2 1 := ⟨_, _, _, rfl, u_inX2, by decide, Or.inl tw177⟩
theorem tw178 : Cond.fieldLinkNest RX7 144 "AsWithTheLast$Memory" "handed" "LAsWithTheLast$Numbers;" "AsWithTheLast" ∈ nw := nw_in (List.mem_of_getElem? (i := 178) (by decide +kernel)) rfl
theorem flX7_144 : f_FL RX7 144 2 1 := ⟨_, _, _, rfl, u_inX2, by decide, Or.inr ⟨_, tw178⟩⟩
theorem tw179 : Cond.fieldLink RX2 30 "AsWithTheLast$Memory" "days" "I" ∈ tb := tb_in (List.mem_of_getElem? (i := 179) (by decide +kernel)) rfl
theorem flX2_30 : f_FL RX2 30 2 2 := ⟨_, _, _, rfl, u_inX2, by decide, Or.inl tw179⟩
theorem fpX2_30 : f_FP RX2 30 2 2 := ⟨_, _, _, rfl, u_inX2, by decide, Or.inl tw179, ⟨_, tyX2_ok⟩, nmX2, rfl, by decide +kernel⟩
theorem tw180 : Cond.fieldLinkNest RX7 269 "AsWithTheLast$Memory" "days" "I" "AsWithTheLast" ∈ nw := nw_in (List.mem_of_getElem? (i := 180) (by decide +kernel)) rfl
theorem flX7_269 : f_FL RX7 269 2 2 := ⟨_, _, _, rfl, u_inX2, by decide, Or.inr ⟨_, tw180⟩⟩
theorem fpX7_269 : f_FP RX7 269 2 2 := ⟨_, _, _, rfl, u_inX2, by decide, Or.inr ⟨_, tw180⟩, ⟨_, tyX2_ok⟩, nmX2, rfl, by decide +kernel⟩
theorem tw181 : Cond.fieldLink RX2 34 "AsWithTheLast$Memory" "lost" "I" ∈ tb := tb_in (List.mem_of_getElem? (i := 181) (by decide +kernel)) rfl
theorem flX2_34 : f_FL RX2 34 2 3 := ⟨_, _, _, rfl, u_inX2, by decide, Or.inl tw181⟩
theorem fpX2_34 : f_FP RX2 34 2 3 := ⟨_, _, _, rfl, u_inX2, by decide, Or.inl tw181, ⟨_, tyX2_ok⟩, nmX2, rfl, by decide +kernel⟩
theorem tw182 : Cond.fieldLinkNest RX7 272 "AsWithTheLast$Memory" "lost" "I" "AsWithTheLast" ∈ nw := nw_in (List.mem_of_getElem? (i := 182) (by decide +kernel)) rfl
theorem flX7_272 : f_FL RX7 272 2 3 := ⟨_, _, _, rfl, u_inX2, by decide, Or.inr ⟨_, tw182⟩⟩
theorem fpX7_272 : f_FP RX7 272 2 3 := ⟨_, _, _, rfl, u_inX2, by decide, Or.inr ⟨_, tw182⟩, ⟨_, tyX2_ok⟩, nmX2, rfl, by decide +kernel⟩
theorem tw183 : Cond.fieldLink RX2 37 "AsWithTheLast$Memory" "good" "I" ∈ tb := tb_in (List.mem_of_getElem? (i := 183) (by decide +kernel)) rfl
theorem flX2_37 : f_FL RX2 37 2 4 := ⟨_, _, _, rfl, u_inX2, by decide, Or.inl tw183⟩
theorem fpX2_37 : f_FP RX2 37 2 4 := ⟨_, _, _, rfl, u_inX2, by decide, Or.inl tw183, ⟨_, tyX2_ok⟩, nmX2, rfl, by decide +kernel⟩
theorem tw184 : Cond.fieldLinkNest RX7 274 "AsWithTheLast$Memory" "good" "I" "AsWithTheLast" ∈ nw := nw_in (List.mem_of_getElem? (i := 184) (by decide +kernel)) rfl
theorem flX7_274 : f_FL RX7 274 2 4 := ⟨_, _, _, rfl, u_inX2, by decide, Or.inr ⟨_, tw184⟩⟩
theorem fpX7_274 : f_FP RX7 274 2 4 := ⟨_, _, _, rfl, u_inX2, by decide, Or.inr ⟨_, tw184⟩, ⟨_, tyX2_ok⟩, nmX2, rfl, by decide +kernel⟩
theorem tw206 : Cond.fieldLink RX6 15 "AsWithTheLast$Shelf" "places" "[LAsWithTheLast$Memory;" ∈ tb := tb_in (List.mem_of_getElem? (i := 206) (by decide +kernel)) rfl
theorem flX6_15 : f_FL RX6 15 6 0 := ⟨_, _, _, rfl, u_inX6, by decide, Or.inl tw206⟩
theorem tw207 : Cond.fieldLink RX6 22 "AsWithTheLast$Shelf" "size" "I" ∈ tb := tb_in (List.mem_of_getElem? (i := 207) (by decide +kernel)) rfl
theorem flX6_22 : f_FL RX6 22 6 1 := ⟨_, _, _, rfl, u_inX6, by decide, Or.inl tw207⟩
theorem fpX6_22 : f_FP RX6 22 6 1 := ⟨_, _, _, rfl, u_inX6, by decide, Or.inl tw207, ⟨_, tyX6_ok⟩, nmX6, rfl, by decide +kernel⟩
theorem tw221 : Cond.fieldLink RX0 23 "AsWithTheLast$Learner" "lesson" "LAsWithTheLast$Lesson;" ∈ tb := tb_in (List.mem_of_getElem? (i := 221) (by decide +kernel)) rfl
theorem flX0_23 : f_FL RX0 23 0 0 := ⟨_, _, _, rfl, u_inX0, by decide, Or.inl tw221⟩
theorem tw222 : Cond.fieldLink RX0 27 "AsWithTheLast$Learner" "below" "LAsWithTheLast$Learner;" ∈ tb := tb_in (List.mem_of_getElem? (i := 222) (by decide +kernel)) rfl
theorem flX0_27 : f_FL RX0 27 0 1 := ⟨_, _, _, rfl, u_inX0, by decide, Or.inl tw222⟩
theorem tw223 : Cond.fieldLink RX0 14 "AsWithTheLast$Learner" "latest" "LAsWithTheLast$Numbers;" ∈ tb := tb_in (List.mem_of_getElem? (i := 223) (by decide +kernel)) rfl
theorem flX0_14 : f_FL RX0 14 0 2 := ⟨_, _, _, rfl, u_inX0, by decide, Or.inl tw223⟩
theorem tw224 : Cond.fieldLink RX0 20 "AsWithTheLast$Learner" "latestDoing" "LAsWithTheLast$Numbers;" ∈ tb := tb_in (List.mem_of_getElem? (i := 224) (by decide +kernel)) rfl
theorem flX0_20 : f_FL RX0 20 0 3 := ⟨_, _, _, rfl, u_inX0, by decide, Or.inl tw224⟩
theorem tw225 : Cond.fieldLink RX0 31 "AsWithTheLast$Learner" "sort" "I" ∈ tb := tb_in (List.mem_of_getElem? (i := 225) (by decide +kernel)) rfl
theorem flX0_31 : f_FL RX0 31 0 4 := ⟨_, _, _, rfl, u_inX0, by decide, Or.inl tw225⟩
theorem fpX0_31 : f_FP RX0 31 0 4 := ⟨_, _, _, rfl, u_inX0, by decide, Or.inl tw225, ⟨_, tyX0_ok⟩, nmX0, rfl, by decide +kernel⟩
theorem tw226 : Cond.fieldLink RX0 35 "AsWithTheLast$Learner" "first" "I" ∈ tb := tb_in (List.mem_of_getElem? (i := 226) (by decide +kernel)) rfl
theorem flX0_35 : f_FL RX0 35 0 5 := ⟨_, _, _, rfl, u_inX0, by decide, Or.inl tw226⟩
theorem fpX0_35 : f_FP RX0 35 0 5 := ⟨_, _, _, rfl, u_inX0, by decide, Or.inl tw226, ⟨_, tyX0_ok⟩, nmX0, rfl, by decide +kernel⟩
theorem tw227 : Cond.fieldLink RX0 38 "AsWithTheLast$Learner" "heard" "I" ∈ tb := tb_in (List.mem_of_getElem? (i := 227) (by decide +kernel)) rfl
theorem flX0_38 : f_FL RX0 38 0 6 := ⟨_, _, _, rfl, u_inX0, by decide, Or.inl tw227⟩
theorem fpX0_38 : f_FP RX0 38 0 6 := ⟨_, _, _, rfl, u_inX0, by decide, Or.inl tw227, ⟨_, tyX0_ok⟩, nmX0, rfl, by decide +kernel⟩
theorem tw228 : Cond.fieldLink RX0 41 "AsWithTheLast$Learner" "last" "I" ∈ tb := tb_in (List.mem_of_getElem? (i := 228) (by decide +kernel)) rfl
theorem flX0_41 : f_FL RX0 41 0 7 := ⟨_, _, _, rfl, u_inX0, by decide, Or.inl tw228⟩
theorem fpX0_41 : f_FP RX0 41 0 7 := ⟨_, _, _, rfl, u_inX0, by decide, Or.inl tw228, ⟨_, tyX0_ok⟩, nmX0, rfl, by decide +kernel⟩
theorem tw229 : Cond.fieldLink RX0 44 "AsWithTheLast$Learner" "before" "I" ∈ tb := tb_in (List.mem_of_getElem? (i := 229) (by decide +kernel)) rfl
theorem flX0_44 : f_FL RX0 44 0 8 := ⟨_, _, _, rfl, u_inX0, by decide, Or.inl tw229⟩
theorem fpX0_44 : f_FP RX0 44 0 8 := ⟨_, _, _, rfl, u_inX0, by decide, Or.inl tw229, ⟨_, tyX0_ok⟩, nmX0, rfl, by decide +kernel⟩
theorem tw257 : Cond.fieldLink RX4 26 "AsWithTheLast$Orders" "lesson" "LAsWithTheLast$Lesson;" ∈ tb := tb_in (List.mem_of_getElem? (i := 257) (by decide +kernel)) rfl
theorem flX4_26 : f_FL RX4 26 4 0 := ⟨_, _, _, rfl, u_inX4, by decide, Or.inl tw257⟩
theorem tw258 : Cond.fieldLink RX4 14 "AsWithTheLast$Orders" "left" "LAsWithTheLast$Numbers;" ∈ tb := tb_in (List.mem_of_getElem? (i := 258) (by decide +kernel)) rfl
theorem flX4_14 : f_FL RX4 14 4 1 := ⟨_, _, _, rfl, u_inX4, by decide, Or.inl tw258⟩
theorem tw259 : Cond.fieldLink RX4 20 "AsWithTheLast$Orders" "tried" "LAsWithTheLast$Numbers;" ∈ tb := tb_in (List.mem_of_getElem? (i := 259) (by decide +kernel)) rfl
theorem flX4_20 : f_FL RX4 20 4 2 := ⟨_, _, _, rfl, u_inX4, by decide, Or.inl tw259⟩
theorem tw260 : Cond.fieldLink RX4 23 "AsWithTheLast$Orders" "best" "LAsWithTheLast$Numbers;" ∈ tb := tb_in (List.mem_of_getElem? (i := 260) (by decide +kernel)) rfl
theorem flX4_23 : f_FL RX4 23 4 3 := ⟨_, _, _, rfl, u_inX4, by decide, Or.inl tw260⟩
theorem tw261 : Cond.fieldLinkNest RX7 214 "AsWithTheLast$Orders" "best" "LAsWithTheLast$Numbers;" "AsWithTheLast" ∈ nw := nw_in (List.mem_of_getElem? (i := 261) (by decide +kernel)) rfl
theorem flX7_214 : f_FL RX7 214 4 3 := ⟨_, _, _, rfl, u_inX4, by decide, Or.inr ⟨_, tw261⟩⟩
theorem tw262 : Cond.fieldLink RX4 51 "AsWithTheLast$Orders" "least" "I" ∈ tb := tb_in (List.mem_of_getElem? (i := 262) (by decide +kernel)) rfl
theorem flX4_51 : f_FL RX4 51 4 4 := ⟨_, _, _, rfl, u_inX4, by decide, Or.inl tw262⟩
theorem fpX4_51 : f_FP RX4 51 4 4 := ⟨_, _, _, rfl, u_inX4, by decide, Or.inl tw262, ⟨_, tyX4_ok⟩, nmX4, rfl, by decide +kernel⟩
theorem tw263 : Cond.fieldLinkNest RX7 211 "AsWithTheLast$Orders" "least" "I" "AsWithTheLast" ∈ nw := nw_in (List.mem_of_getElem? (i := 263) (by decide +kernel)) rfl
theorem flX7_211 : f_FL RX7 211 4 4 := ⟨_, _, _, rfl, u_inX4, by decide, Or.inr ⟨_, tw263⟩⟩
theorem fpX7_211 : f_FP RX7 211 4 4 := ⟨_, _, _, rfl, u_inX4, by decide, Or.inr ⟨_, tw263⟩, ⟨_, tyX4_ok⟩, nmX4, rfl, by decide +kernel⟩
theorem tw407 : Cond.fieldLink RX7 14 "AsWithTheLast" "text" "LAsWithTheLast$Numbers;" ∈ tb := tb_in (List.mem_of_getElem? (i := 407) (by decide +kernel)) rfl
theorem flX7_14 : f_FL RX7 14 7 0 := ⟨_, _, _, rfl, u_inX7, by decide, Or.inl tw407⟩
theorem tw408 : Cond.fieldLink RX7 21 "AsWithTheLast" "told" "LAsWithTheLast$Lesson;" ∈ tb := tb_in (List.mem_of_getElem? (i := 408) (by decide +kernel)) rfl
theorem flX7_21 : f_FL RX7 21 7 1 := ⟨_, _, _, rfl, u_inX7, by decide, Or.inl tw408⟩
theorem tw409 : Cond.fieldLink RX7 30 "AsWithTheLast" "reader" "LAsWithTheLast$Reader;" ∈ tb := tb_in (List.mem_of_getElem? (i := 409) (by decide +kernel)) rfl
theorem flX7_30 : f_FL RX7 30 7 2 := ⟨_, _, _, rfl, u_inX7, by decide, Or.inl tw409⟩
theorem tw410 : Cond.fieldLink RX7 34 "AsWithTheLast" "laid" "LAsWithTheLast$Lesson;" ∈ tb := tb_in (List.mem_of_getElem? (i := 410) (by decide +kernel)) rfl
theorem flX7_34 : f_FL RX7 34 7 3 := ⟨_, _, _, rfl, u_inX7, by decide, Or.inl tw410⟩
theorem tw411 : Cond.fieldLink RX7 40 "AsWithTheLast" "memory" "LAsWithTheLast$Memory;" ∈ tb := tb_in (List.mem_of_getElem? (i := 411) (by decide +kernel)) rfl
theorem flX7_40 : f_FL RX7 40 7 4 := ⟨_, _, _, rfl, u_inX7, by decide, Or.inl tw411⟩
theorem tw412 : Cond.fieldLink RX7 47 "AsWithTheLast" "past" "LAsWithTheLast$Shelf;" ∈ tb := tb_in (List.mem_of_getElem? (i := 412) (by decide +kernel)) rfl
theorem flX7_47 : f_FL RX7 47 7 5 := ⟨_, _, _, rfl, u_inX7, by decide, Or.inl tw412⟩
theorem tw413 : Cond.fieldLink RX7 51 "AsWithTheLast" "kept" "LAsWithTheLast$Shelf;" ∈ tb := tb_in (List.mem_of_getElem? (i := 413) (by decide +kernel)) rfl
theorem flX7_51 : f_FL RX7 51 7 6 := ⟨_, _, _, rfl, u_inX7, by decide, Or.inl tw413⟩
theorem tw414 : Cond.fieldLink RX7 54 "AsWithTheLast" "seenThings" "LAsWithTheLast$Numbers;" ∈ tb := tb_in (List.mem_of_getElem? (i := 414) (by decide +kernel)) rfl
theorem flX7_54 : f_FL RX7 54 7 7 := ⟨_, _, _, rfl, u_inX7, by decide, Or.inl tw414⟩
theorem tw415 : Cond.fieldLink RX7 57 "AsWithTheLast" "times" "LAsWithTheLast$Numbers;" ∈ tb := tb_in (List.mem_of_getElem? (i := 415) (by decide +kernel)) rfl
theorem flX7_57 : f_FL RX7 57 7 8 := ⟨_, _, _, rfl, u_inX7, by decide, Or.inl tw415⟩
theorem tw416 : Cond.fieldLink RX7 60 "AsWithTheLast" "alike" "LAsWithTheLast$Numbers;" ∈ tb := tb_in (List.mem_of_getElem? (i := 416) (by decide +kernel)) rfl
theorem flX7_60 : f_FL RX7 60 7 9 := ⟨_, _, _, rfl, u_inX7, by decide, Or.inl tw416⟩
theorem tw417 : Cond.fieldLink RX7 68 "AsWithTheLast" "learner" "LAsWithTheLast$Learner;" ∈ tb := tb_in (List.mem_of_getElem? (i := 417) (by decide +kernel)) rfl
theorem flX7_68 : f_FL RX7 68 7 10 := ⟨_, _, _, rfl, u_inX7, by decide, Or.inl tw417⟩
theorem tw418 : Cond.fieldLink RX7 77 "AsWithTheLast" "orders" "LAsWithTheLast$Orders;" ∈ tb := tb_in (List.mem_of_getElem? (i := 418) (by decide +kernel)) rfl
theorem flX7_77 : f_FL RX7 77 7 11 := ⟨_, _, _, rfl, u_inX7, by decide, Or.inl tw418⟩
theorem tw818 : Cond.fieldLink RX8 7 "AsWithTheLastModel" "told" "[I" ∈ tb := tb_in (List.mem_of_getElem? (i := 818) (by decide +kernel)) rfl
theorem flX8_7 : f_FL RX8 7 8 0 := ⟨_, _, _, rfl, u_inX8, by decide, Or.inl tw818⟩
theorem tw819 : Cond.fieldLink RX8 75 "AsWithTheLastModel" "kinds" "I" ∈ tb := tb_in (List.mem_of_getElem? (i := 819) (by decide +kernel)) rfl
theorem flX8_75 : f_FL RX8 75 8 1 := ⟨_, _, _, rfl, u_inX8, by decide, Or.inl tw819⟩
theorem fpX8_75 : f_FP RX8 75 8 1 := ⟨_, _, _, rfl, u_inX8, by decide, Or.inl tw819, ⟨_, tyX8_ok⟩, nmX8, rfl, by decide +kernel⟩
theorem tw820 : Cond.fieldLink RX8 136 "AsWithTheLastModel" "sort" "I" ∈ tb := tb_in (List.mem_of_getElem? (i := 820) (by decide +kernel)) rfl
theorem flX8_136 : f_FL RX8 136 8 2 := ⟨_, _, _, rfl, u_inX8, by decide, Or.inl tw820⟩
theorem fpX8_136 : f_FP RX8 136 8 2 := ⟨_, _, _, rfl, u_inX8, by decide, Or.inl tw820, ⟨_, tyX8_ok⟩, nmX8, rfl, by decide +kernel⟩
theorem tw821 : Cond.fieldLink RX8 139 "AsWithTheLastModel" "firstDoing" "I" ∈ tb := tb_in (List.mem_of_getElem? (i := 821) (by decide +kernel)) rfl
theorem flX8_139 : f_FL RX8 139 8 3 := ⟨_, _, _, rfl, u_inX8, by decide, Or.inl tw821⟩
theorem fpX8_139 : f_FP RX8 139 8 3 := ⟨_, _, _, rfl, u_inX8, by decide, Or.inl tw821, ⟨_, tyX8_ok⟩, nmX8, rfl, by decide +kernel⟩
theorem tw822 : Cond.fieldLink RX8 13 "AsWithTheLastModel" "errands" "[I" ∈ tb := tb_in (List.mem_of_getElem? (i := 822) (by decide +kernel)) rfl
theorem flX8_13 : f_FL RX8 13 8 4 := ⟨_, _, _, rfl, u_inX8, by decide, Or.inl tw822⟩
theorem tw823 : Cond.fieldLink RX8 71 "AsWithTheLastModel" "rowLong" "I" ∈ tb := tb_in (List.mem_of_getElem? (i := 823) (by decide +kernel)) rfl
theorem flX8_71 : f_FL RX8 71 8 5 := ⟨_, _, _, rfl, u_inX8, by decide, Or.inl tw823⟩
theorem fpX8_71 : f_FP RX8 71 8 5 := ⟨_, _, _, rfl, u_inX8, by decide, Or.inl tw823, ⟨_, tyX8_ok⟩, nmX8, rfl, by decide +kernel⟩
theorem tw824 : Cond.fieldLink RX8 16 "AsWithTheLastModel" "st" "[I" ∈ tb := tb_in (List.mem_of_getElem? (i := 824) (by decide +kernel)) rfl
theorem flX8_16 : f_FL RX8 16 8 6 := ⟨_, _, _, rfl, u_inX8, by decide, Or.inl tw824⟩
theorem tw825 : Cond.fieldLink RX8 19 "AsWithTheLastModel" "text" "[I" ∈ tb := tb_in (List.mem_of_getElem? (i := 825) (by decide +kernel)) rfl
theorem flX8_19 : f_FL RX8 19 8 7 := ⟨_, _, _, rfl, u_inX8, by decide, Or.inl tw825⟩
theorem tw826 : Cond.fieldLink RX8 88 "AsWithTheLastModel" "letters" "I" ∈ tb := tb_in (List.mem_of_getElem? (i := 826) (by decide +kernel)) rfl
theorem flX8_88 : f_FL RX8 88 8 8 := ⟨_, _, _, rfl, u_inX8, by decide, Or.inl tw826⟩
theorem fpX8_88 : f_FP RX8 88 8 8 := ⟨_, _, _, rfl, u_inX8, by decide, Or.inl tw826, ⟨_, tyX8_ok⟩, nmX8, rfl, by decide +kernel⟩
theorem tw827 : Cond.fieldLink RX8 91 "AsWithTheLastModel" "place" "I" ∈ tb := tb_in (List.mem_of_getElem? (i := 827) (by decide +kernel)) rfl
theorem flX8_91 : f_FL RX8 91 8 9 := ⟨_, _, _, rfl, u_inX8, by decide, Or.inl tw827⟩
theorem fpX8_91 : f_FP RX8 91 8 9 := ⟨_, _, _, rfl, u_inX8, by decide, Or.inl tw827, ⟨_, tyX8_ok⟩, nmX8, rfl, by decide +kernel⟩
theorem tw828 : Cond.fieldLink RX8 22 "AsWithTheLastModel" "number" "[I" ∈ tb := tb_in (List.mem_of_getElem? (i := 828) (by decide +kernel)) rfl
theorem flX8_22 : f_FL RX8 22 8 10 := ⟨_, _, _, rfl, u_inX8, by decide, Or.inl tw828⟩
theorem tw829 : Cond.fieldLink RX8 25 "AsWithTheLastModel" "readTold" "[I" ∈ tb := tb_in (List.mem_of_getElem? (i := 829) (by decide +kernel)) rfl
theorem flX8_25 : f_FL RX8 25 8 11 := ⟨_, _, _, rfl, u_inX8, by decide, Or.inl tw829⟩
theorem tw830 : Cond.fieldLink RX8 98 "AsWithTheLastModel" "readKinds" "I" ∈ tb := tb_in (List.mem_of_getElem? (i := 830) (by decide +kernel)) rfl
theorem flX8_98 : f_FL RX8 98 8 12 := ⟨_, _, _, rfl, u_inX8, by decide, Or.inl tw830⟩
theorem fpX8_98 : f_FP RX8 98 8 12 := ⟨_, _, _, rfl, u_inX8, by decide, Or.inl tw830, ⟨_, tyX8_ok⟩, nmX8, rfl, by decide +kernel⟩
theorem tw831 : Cond.fieldLink RX8 120 "AsWithTheLastModel" "readSort" "I" ∈ tb := tb_in (List.mem_of_getElem? (i := 831) (by decide +kernel)) rfl
theorem flX8_120 : f_FL RX8 120 8 13 := ⟨_, _, _, rfl, u_inX8, by decide, Or.inl tw831⟩
theorem fpX8_120 : f_FP RX8 120 8 13 := ⟨_, _, _, rfl, u_inX8, by decide, Or.inl tw831, ⟨_, tyX8_ok⟩, nmX8, rfl, by decide +kernel⟩
theorem tw832 : Cond.fieldLink RX8 123 "AsWithTheLastModel" "readFirst" "I" ∈ tb := tb_in (List.mem_of_getElem? (i := 832) (by decide +kernel)) rfl
theorem flX8_123 : f_FL RX8 123 8 14 := ⟨_, _, _, rfl, u_inX8, by decide, Or.inl tw832⟩
theorem fpX8_123 : f_FP RX8 123 8 14 := ⟨_, _, _, rfl, u_inX8, by decide, Or.inl tw832, ⟨_, tyX8_ok⟩, nmX8, rfl, by decide +kernel⟩
theorem tw833 : Cond.fieldLink RX8 28 "AsWithTheLastModel" "readErrands" "[I" ∈ tb := tb_in (List.mem_of_getElem? (i := 833) (by decide +kernel)) rfl
theorem flX8_28 : f_FL RX8 28 8 15 := ⟨_, _, _, rfl, u_inX8, by decide, Or.inl tw833⟩
theorem tw834 : Cond.fieldLink RX8 126 "AsWithTheLastModel" "readLong" "I" ∈ tb := tb_in (List.mem_of_getElem? (i := 834) (by decide +kernel)) rfl
theorem flX8_126 : f_FL RX8 126 8 16 := ⟨_, _, _, rfl, u_inX8, by decide, Or.inl tw834⟩
theorem fpX8_126 : f_FP RX8 126 8 16 := ⟨_, _, _, rfl, u_inX8, by decide, Or.inl tw834, ⟨_, tyX8_ok⟩, nmX8, rfl, by decide +kernel⟩
theorem tw835 : Cond.fieldLink RX8 170 "AsWithTheLastModel" "did" "I" ∈ tb := tb_in (List.mem_of_getElem? (i := 835) (by decide +kernel)) rfl
theorem flX8_170 : f_FL RX8 170 8 17 := ⟨_, _, _, rfl, u_inX8, by decide, Or.inl tw835⟩
theorem fpX8_170 : f_FP RX8 170 8 17 := ⟨_, _, _, rfl, u_inX8, by decide, Or.inl tw835, ⟨_, tyX8_ok⟩, nmX8, rfl, by decide +kernel⟩
theorem tw836 : Cond.fieldLink RX8 31 "AsWithTheLastModel" "ahead" "[I" ∈ tb := tb_in (List.mem_of_getElem? (i := 836) (by decide +kernel)) rfl
theorem flX8_31 : f_FL RX8 31 8 18 := ⟨_, _, _, rfl, u_inX8, by decide, Or.inl tw836⟩
theorem tw837 : Cond.fieldLink RX8 142 "AsWithTheLastModel" "undoMany" "I" ∈ tb := tb_in (List.mem_of_getElem? (i := 837) (by decide +kernel)) rfl
theorem flX8_142 : f_FL RX8 142 8 19 := ⟨_, _, _, rfl, u_inX8, by decide, Or.inl tw837⟩
theorem fpX8_142 : f_FP RX8 142 8 19 := ⟨_, _, _, rfl, u_inX8, by decide, Or.inl tw837, ⟨_, tyX8_ok⟩, nmX8, rfl, by decide +kernel⟩
theorem tw838 : Cond.fieldLink RX8 34 "AsWithTheLastModel" "aside" "[I" ∈ tb := tb_in (List.mem_of_getElem? (i := 838) (by decide +kernel)) rfl
theorem flX8_34 : f_FL RX8 34 8 20 := ⟨_, _, _, rfl, u_inX8, by decide, Or.inl tw838⟩
theorem tw839 : Cond.fieldLink RX8 37 "AsWithTheLastModel" "done" "[I" ∈ tb := tb_in (List.mem_of_getElem? (i := 839) (by decide +kernel)) rfl
theorem flX8_37 : f_FL RX8 37 8 21 := ⟨_, _, _, rfl, u_inX8, by decide, Or.inl tw839⟩
theorem tw840 : Cond.fieldLink RX8 40 "AsWithTheLastModel" "went" "[I" ∈ tb := tb_in (List.mem_of_getElem? (i := 840) (by decide +kernel)) rfl
theorem flX8_40 : f_FL RX8 40 8 22 := ⟨_, _, _, rfl, u_inX8, by decide, Or.inl tw840⟩
theorem tw841 : Cond.fieldLink RX8 43 "AsWithTheLastModel" "passes" "[I" ∈ tb := tb_in (List.mem_of_getElem? (i := 841) (by decide +kernel)) rfl
theorem flX8_43 : f_FL RX8 43 8 23 := ⟨_, _, _, rfl, u_inX8, by decide, Or.inl tw841⟩
theorem tw842 : Cond.fieldLink RX8 46 "AsWithTheLastModel" "had" "[I" ∈ tb := tb_in (List.mem_of_getElem? (i := 842) (by decide +kernel)) rfl
theorem flX8_46 : f_FL RX8 46 8 24 := ⟨_, _, _, rfl, u_inX8, by decide, Or.inl tw842⟩
theorem tw843 : Cond.fieldLink RX8 49 "AsWithTheLastModel" "bestRow" "[I" ∈ tb := tb_in (List.mem_of_getElem? (i := 843) (by decide +kernel)) rfl
theorem flX8_49 : f_FL RX8 49 8 25 := ⟨_, _, _, rfl, u_inX8, by decide, Or.inl tw843⟩
theorem tw844 : Cond.fieldLink RX8 52 "AsWithTheLastModel" "seenAt" "[I" ∈ tb := tb_in (List.mem_of_getElem? (i := 844) (by decide +kernel)) rfl
theorem flX8_52 : f_FL RX8 52 8 26 := ⟨_, _, _, rfl, u_inX8, by decide, Or.inl tw844⟩
theorem tw845 : Cond.fieldLink RX8 55 "AsWithTheLastModel" "seenDid" "[I" ∈ tb := tb_in (List.mem_of_getElem? (i := 845) (by decide +kernel)) rfl
theorem flX8_55 : f_FL RX8 55 8 27 := ⟨_, _, _, rfl, u_inX8, by decide, Or.inl tw845⟩
theorem tw846 : Cond.fieldLink RX8 145 "AsWithTheLastModel" "seenMany" "I" ∈ tb := tb_in (List.mem_of_getElem? (i := 846) (by decide +kernel)) rfl
theorem flX8_145 : f_FL RX8 145 8 28 := ⟨_, _, _, rfl, u_inX8, by decide, Or.inl tw846⟩
theorem fpX8_145 : f_FP RX8 145 8 28 := ⟨_, _, _, rfl, u_inX8, by decide, Or.inl tw846, ⟨_, tyX8_ok⟩, nmX8, rfl, by decide +kernel⟩
theorem tw847 : Cond.fieldLink RX8 58 "AsWithTheLastModel" "ahead1" "[I" ∈ tb := tb_in (List.mem_of_getElem? (i := 847) (by decide +kernel)) rfl
theorem flX8_58 : f_FL RX8 58 8 29 := ⟨_, _, _, rfl, u_inX8, by decide, Or.inl tw847⟩
theorem tw848 : Cond.fieldLink RX8 61 "AsWithTheLastModel" "ahead2" "[I" ∈ tb := tb_in (List.mem_of_getElem? (i := 848) (by decide +kernel)) rfl
theorem flX8_61 : f_FL RX8 61 8 30 := ⟨_, _, _, rfl, u_inX8, by decide, Or.inl tw848⟩
theorem tw849 : Cond.fieldLink RX8 64 "AsWithTheLastModel" "kept" "[I" ∈ tb := tb_in (List.mem_of_getElem? (i := 849) (by decide +kernel)) rfl
theorem flX8_64 : f_FL RX8 64 8 31 := ⟨_, _, _, rfl, u_inX8, by decide, Or.inl tw849⟩
theorem tw850 : Cond.fieldLink RX8 148 "AsWithTheLastModel" "keptMany" "I" ∈ tb := tb_in (List.mem_of_getElem? (i := 850) (by decide +kernel)) rfl
theorem flX8_148 : f_FL RX8 148 8 32 := ⟨_, _, _, rfl, u_inX8, by decide, Or.inl tw850⟩
theorem fpX8_148 : f_FP RX8 148 8 32 := ⟨_, _, _, rfl, u_inX8, by decide, Or.inl tw850, ⟨_, tyX8_ok⟩, nmX8, rfl, by decide +kernel⟩
theorem mlX3_7 : Cond.methodLink RX3 7 Lib.Math.max.name ∈ tb := tb_in (List.mem_of_getElem? (i := 76) (by decide +kernel)) (by decide +kernel)
abbrev mX3_fill : f_Y := (yX3_fill, cX3_fill, 4, none)
theorem tw170 : Cond.code yX3_fill cX3_fill 4 none ∈ tb := tb_in (List.mem_of_getElem? (i := 170) (by decide +kernel)) rfl
theorem tw47 : Cond.initialized RX3 ∈ tb := tb_in (List.mem_of_getElem? (i := 47) (by decide +kernel)) rfl
theorem lcX3_fill : f_LC mX3_fill := ⟨tw170, tw47⟩
theorem hdX3_fill : f_hd mX3_fill 2 := ⟨⟨by decide +kernel, by decide +kernel, by decide +kernel⟩, by decide⟩
theorem tw167 : Cond.methodLink RX2 23 yX3_fill ∈ tb := tb_in (List.mem_of_getElem? (i := 167) (by decide +kernel)) rfl
theorem tw168 : Cond.instanceMethod yX3_fill ∈ tb := tb_in (List.mem_of_getElem? (i := 168) (by decide +kernel)) rfl
theorem tw169 : Cond.selects yX3_fill.cls yX3_fill yX3_fill ∈ tb := tb_in (List.mem_of_getElem? (i := 169) (by decide +kernel)) rfl
theorem mlX2_23 : f_LV RX2 23 mX3_fill 2 := ⟨lcX3_fill, tw168, tw169, Or.inl tw167, hdX3_fill⟩
abbrev mX3_add : f_Y := (yX3_add, cX3_add, 2, none)
theorem tw174 : Cond.code yX3_add cX3_add 2 none ∈ tb := tb_in (List.mem_of_getElem? (i := 174) (by decide +kernel)) rfl
theorem lcX3_add : f_LC mX3_add := ⟨tw174, tw47⟩
theorem hdX3_add : f_hd mX3_add 1 := ⟨⟨by decide +kernel, by decide +kernel, by decide +kernel⟩, by decide⟩
theorem tw171 : Cond.methodLink RX3 23 yX3_add ∈ tb := tb_in (List.mem_of_getElem? (i := 171) (by decide +kernel)) rfl
theorem tw172 : Cond.instanceMethod yX3_add ∈ tb := tb_in (List.mem_of_getElem? (i := 172) (by decide +kernel)) rfl
theorem tw173 : Cond.selects yX3_add.cls yX3_add yX3_add ∈ tb := tb_in (List.mem_of_getElem? (i := 173) (by decide +kernel)) rfl
theorem mlX3_23 : f_LV RX3 23 mX3_add 1 := ⟨lcX3_add, tw172, tw173, Or.inl tw171, hdX3_add⟩
theorem mlX6_7 : Cond.methodLink RX6 7 Lib.Math.max.name ∈ tb := tb_in (List.mem_of_getElem? (i := 202) (by decide +kernel)) (by decide +kernel)
abbrev mJ0_length_8abf5 : f_Y := (yJ0_length_8abf5, cJ0_length_8abf5, 1, (some .int))
theorem tw279 : Cond.code yJ0_length_8abf5 cJ0_length_8abf5 1 (some .int) ∈ tb := tb_in (List.mem_of_getElem? (i := 279) (by decide +kernel)) rfl
theorem tw55 : Cond.initialized RJ0 ∈ tb := tb_in (List.mem_of_getElem? (i := 55) (by decide +kernel)) rfl
theorem lcJ0_length_8abf5 : f_LC mJ0_length_8abf5 := ⟨tw279, tw55⟩
theorem hdJ0_length_8abf5 : f_hd mJ0_length_8abf5 0 := ⟨⟨by decide +kernel, by decide +kernel, by decide +kernel⟩, by decide⟩
theorem tw276 : Cond.methodLink RX7 83 yJ0_length_8abf5 ∈ tb := tb_in (List.mem_of_getElem? (i := 276) (by decide +kernel)) rfl
theorem tw277 : Cond.instanceMethod yJ0_length_8abf5 ∈ tb := tb_in (List.mem_of_getElem? (i := 277) (by decide +kernel)) rfl
theorem tw278 : Cond.selects yJ0_length_8abf5.cls yJ0_length_8abf5 yJ0_length_8abf5 ∈ tb := tb_in (List.mem_of_getElem? (i := 278) (by decide +kernel)) rfl
theorem mlX7_83 : f_LV RX7 83 mJ0_length_8abf5 0 := ⟨lcJ0_length_8abf5, tw277, tw278, Or.inl tw276, hdJ0_length_8abf5⟩
abbrev mJ0_coder_7d493 : f_Y := (yJ0_coder_7d493, cJ0_coder_7d493, 1, (some .byte))
theorem tw283 : Cond.code yJ0_coder_7d493 cJ0_coder_7d493 1 (some .byte) ∈ tb := tb_in (List.mem_of_getElem? (i := 283) (by decide +kernel)) rfl
theorem lcJ0_coder_7d493 : f_LC mJ0_coder_7d493 := ⟨tw283, tw55⟩
theorem hdJ0_coder_7d493 : f_hd mJ0_coder_7d493 0 := ⟨⟨by decide +kernel, by decide +kernel, by decide +kernel⟩, by decide⟩
theorem tw280 : Cond.methodLink RJ0 335 yJ0_coder_7d493 ∈ tb := tb_in (List.mem_of_getElem? (i := 280) (by decide +kernel)) rfl
theorem tw281 : Cond.instanceMethod yJ0_coder_7d493 ∈ tb := tb_in (List.mem_of_getElem? (i := 281) (by decide +kernel)) rfl
theorem tw282 : Cond.selects yJ0_coder_7d493.cls yJ0_coder_7d493 yJ0_coder_7d493 ∈ tb := tb_in (List.mem_of_getElem? (i := 282) (by decide +kernel)) rfl
theorem mlJ0_335 : f_LV RJ0 335 mJ0_coder_7d493 0 := ⟨lcJ0_coder_7d493, tw281, tw282, Or.inl tw280, hdJ0_coder_7d493⟩
abbrev mJ0_charAt_5068e : f_Y := (yJ0_charAt_5068e, cJ0_charAt_5068e, 2, (some .char))
theorem tw289 : Cond.code yJ0_charAt_5068e cJ0_charAt_5068e 2 (some .char) ∈ tb := tb_in (List.mem_of_getElem? (i := 289) (by decide +kernel)) rfl
theorem lcJ0_charAt_5068e : f_LC mJ0_charAt_5068e := ⟨tw289, tw55⟩
theorem hdJ0_charAt_5068e : f_hd mJ0_charAt_5068e 1 := ⟨⟨by decide +kernel, by decide +kernel, by decide +kernel⟩, by decide⟩
theorem tw286 : Cond.methodLink RX7 89 yJ0_charAt_5068e ∈ tb := tb_in (List.mem_of_getElem? (i := 286) (by decide +kernel)) rfl
theorem tw287 : Cond.instanceMethod yJ0_charAt_5068e ∈ tb := tb_in (List.mem_of_getElem? (i := 287) (by decide +kernel)) rfl
theorem tw288 : Cond.selects yJ0_charAt_5068e.cls yJ0_charAt_5068e yJ0_charAt_5068e ∈ tb := tb_in (List.mem_of_getElem? (i := 288) (by decide +kernel)) rfl
theorem mlX7_89 : f_LV RX7 89 mJ0_charAt_5068e 1 := ⟨lcJ0_charAt_5068e, tw287, tw288, Or.inl tw286, hdJ0_charAt_5068e⟩
abbrev mJ0_isLatin1_aae02 : f_Y := (yJ0_isLatin1_aae02, cJ0_isLatin1_aae02, 1, (some .boolean))
theorem tw293 : Cond.code yJ0_isLatin1_aae02 cJ0_isLatin1_aae02 1 (some .boolean) ∈ tb := tb_in (List.mem_of_getElem? (i := 293) (by decide +kernel)) rfl
theorem lcJ0_isLatin1_aae02 : f_LC mJ0_isLatin1_aae02 := ⟨tw293, tw55⟩
theorem hdJ0_isLatin1_aae02 : f_hd mJ0_isLatin1_aae02 0 := ⟨⟨by decide +kernel, by decide +kernel, by decide +kernel⟩, by decide⟩
theorem tw290 : Cond.methodLink RJ0 492 yJ0_isLatin1_aae02 ∈ tb := tb_in (List.mem_of_getElem? (i := 290) (by decide +kernel)) rfl
theorem tw291 : Cond.instanceMethod yJ0_isLatin1_aae02 ∈ tb := tb_in (List.mem_of_getElem? (i := 291) (by decide +kernel)) rfl
theorem tw292 : Cond.selects yJ0_isLatin1_aae02.cls yJ0_isLatin1_aae02 yJ0_isLatin1_aae02 ∈ tb := tb_in (List.mem_of_getElem? (i := 292) (by decide +kernel)) rfl
theorem mlJ0_492 : f_LV RJ0 492 mJ0_isLatin1_aae02 0 := ⟨lcJ0_isLatin1_aae02, tw291, tw292, Or.inl tw290, hdJ0_isLatin1_aae02⟩
abbrev mJ1_charAt_3b067 : f_Y := (yJ1_charAt_3b067, cJ1_charAt_3b067, 2, (some .char))
theorem tw296 : Cond.code yJ1_charAt_3b067 cJ1_charAt_3b067 2 (some .char) ∈ tb := tb_in (List.mem_of_getElem? (i := 296) (by decide +kernel)) rfl
theorem tw56 : Cond.initialized RJ1 ∈ tb := tb_in (List.mem_of_getElem? (i := 56) (by decide +kernel)) rfl
theorem lcJ1_charAt_3b067 : f_LC mJ1_charAt_3b067 := ⟨tw296, tw56⟩
theorem hdJ1_charAt_3b067 : f_hd mJ1_charAt_3b067 2 := ⟨⟨by decide +kernel, by decide +kernel, by decide +kernel⟩, by decide⟩
theorem tw294 : Cond.methodLink RJ0 495 yJ1_charAt_3b067 ∈ tb := tb_in (List.mem_of_getElem? (i := 294) (by decide +kernel)) rfl
theorem tw295 : Cond.static yJ1_charAt_3b067 ∈ tb := tb_in (List.mem_of_getElem? (i := 295) (by decide +kernel)) rfl
theorem mlJ0_495 : f_LS RJ0 495 mJ1_charAt_3b067 2 := ⟨lcJ1_charAt_3b067, tw295, Or.inl tw294, hdJ1_charAt_3b067⟩
abbrev mJ0_checkIndex_df160 : f_Y := (yJ0_checkIndex_df160, cJ0_checkIndex_df160, 2, none)
theorem tw299 : Cond.code yJ0_checkIndex_df160 cJ0_checkIndex_df160 2 none ∈ tb := tb_in (List.mem_of_getElem? (i := 299) (by decide +kernel)) rfl
theorem lcJ0_checkIndex_df160 : f_LC mJ0_checkIndex_df160 := ⟨tw299, tw55⟩
theorem hdJ0_checkIndex_df160 : f_hd mJ0_checkIndex_df160 2 := ⟨⟨by decide +kernel, by decide +kernel, by decide +kernel⟩, by decide⟩
theorem tw297 : Cond.methodLink RJ1 9 yJ0_checkIndex_df160 ∈ tb := tb_in (List.mem_of_getElem? (i := 297) (by decide +kernel)) rfl
theorem tw298 : Cond.static yJ0_checkIndex_df160 ∈ tb := tb_in (List.mem_of_getElem? (i := 298) (by decide +kernel)) rfl
theorem mlJ1_9 : f_LS RJ1 9 mJ0_checkIndex_df160 2 := ⟨lcJ0_checkIndex_df160, tw298, Or.inl tw297, hdJ0_checkIndex_df160⟩
abbrev mJ3_checkIndex_8e157 : f_Y := (yJ3_checkIndex_8e157, cJ3_checkIndex_8e157, 3, (some .int))
theorem tw304 : Cond.code yJ3_checkIndex_8e157 cJ3_checkIndex_8e157 3 (some .int) ∈ tb := tb_in (List.mem_of_getElem? (i := 304) (by decide +kernel)) rfl
theorem tw57 : Cond.initialized RJ3 ∈ tb := tb_in (List.mem_of_getElem? (i := 57) (by decide +kernel)) rfl
theorem lcJ3_checkIndex_8e157 : f_LC mJ3_checkIndex_8e157 := ⟨tw304, tw57⟩
theorem hdJ3_checkIndex_8e157 : f_hd mJ3_checkIndex_8e157 3 := ⟨⟨by decide +kernel, by decide +kernel, by decide +kernel⟩, by decide⟩
theorem tw302 : Cond.methodLink RJ0 1059 yJ3_checkIndex_8e157 ∈ tb := tb_in (List.mem_of_getElem? (i := 302) (by decide +kernel)) rfl
theorem tw303 : Cond.static yJ3_checkIndex_8e157 ∈ tb := tb_in (List.mem_of_getElem? (i := 303) (by decide +kernel)) rfl
theorem mlJ0_1059 : f_LS RJ0 1059 mJ3_checkIndex_8e157 3 := ⟨lcJ3_checkIndex_8e157, tw303, Or.inl tw302, hdJ3_checkIndex_8e157⟩
abbrev mJ2_charAt_3b067 : f_Y := (yJ2_charAt_3b067, cJ2_charAt_3b067, 2, (some .char))
theorem tw307 : Cond.code yJ2_charAt_3b067 cJ2_charAt_3b067 2 (some .char) ∈ tb := tb_in (List.mem_of_getElem? (i := 307) (by decide +kernel)) rfl
theorem tw58 : Cond.initialized RJ2 ∈ tb := tb_in (List.mem_of_getElem? (i := 58) (by decide +kernel)) rfl
theorem lcJ2_charAt_3b067 : f_LC mJ2_charAt_3b067 := ⟨tw307, tw58⟩
theorem hdJ2_charAt_3b067 : f_hd mJ2_charAt_3b067 2 := ⟨⟨by decide +kernel, by decide +kernel, by decide +kernel⟩, by decide⟩
theorem tw305 : Cond.methodLink RJ0 498 yJ2_charAt_3b067 ∈ tb := tb_in (List.mem_of_getElem? (i := 305) (by decide +kernel)) rfl
theorem tw306 : Cond.static yJ2_charAt_3b067 ∈ tb := tb_in (List.mem_of_getElem? (i := 306) (by decide +kernel)) rfl
theorem mlJ0_498 : f_LS RJ0 498 mJ2_charAt_3b067 2 := ⟨lcJ2_charAt_3b067, tw306, Or.inl tw305, hdJ2_charAt_3b067⟩
abbrev mJ2_checkIndex_2214a : f_Y := (yJ2_checkIndex_2214a, cJ2_checkIndex_2214a, 2, none)
theorem tw310 : Cond.code yJ2_checkIndex_2214a cJ2_checkIndex_2214a 2 none ∈ tb := tb_in (List.mem_of_getElem? (i := 310) (by decide +kernel)) rfl
theorem lcJ2_checkIndex_2214a : f_LC mJ2_checkIndex_2214a := ⟨tw310, tw58⟩
theorem hdJ2_checkIndex_2214a : f_hd mJ2_checkIndex_2214a 2 := ⟨⟨by decide +kernel, by decide +kernel, by decide +kernel⟩, by decide⟩
theorem tw308 : Cond.methodLink RJ2 67 yJ2_checkIndex_2214a ∈ tb := tb_in (List.mem_of_getElem? (i := 308) (by decide +kernel)) rfl
theorem tw309 : Cond.static yJ2_checkIndex_2214a ∈ tb := tb_in (List.mem_of_getElem? (i := 309) (by decide +kernel)) rfl
theorem mlJ2_67 : f_LS RJ2 67 mJ2_checkIndex_2214a 2 := ⟨lcJ2_checkIndex_2214a, tw309, Or.inl tw308, hdJ2_checkIndex_2214a⟩
abbrev mJ2_length_9d52b : f_Y := (yJ2_length_9d52b, cJ2_length_9d52b, 1, (some .int))
theorem tw313 : Cond.code yJ2_length_9d52b cJ2_length_9d52b 1 (some .int) ∈ tb := tb_in (List.mem_of_getElem? (i := 313) (by decide +kernel)) rfl
theorem lcJ2_length_9d52b : f_LC mJ2_length_9d52b := ⟨tw313, tw58⟩
theorem hdJ2_length_9d52b : f_hd mJ2_length_9d52b 1 := ⟨⟨by decide +kernel, by decide +kernel, by decide +kernel⟩, by decide⟩
theorem tw311 : Cond.methodLink RJ2 48 yJ2_length_9d52b ∈ tb := tb_in (List.mem_of_getElem? (i := 311) (by decide +kernel)) rfl
theorem tw312 : Cond.static yJ2_length_9d52b ∈ tb := tb_in (List.mem_of_getElem? (i := 312) (by decide +kernel)) rfl
theorem mlJ2_48 : f_LS RJ2 48 mJ2_length_9d52b 1 := ⟨lcJ2_length_9d52b, tw312, Or.inl tw311, hdJ2_length_9d52b⟩
theorem tw314 : Cond.methodLink RJ2 414 yJ0_checkIndex_df160 ∈ tb := tb_in (List.mem_of_getElem? (i := 314) (by decide +kernel)) rfl
theorem mlJ2_414 : f_LS RJ2 414 mJ0_checkIndex_df160 2 := ⟨lcJ0_checkIndex_df160, tw298, Or.inl tw314, hdJ0_checkIndex_df160⟩
abbrev mJ2_getChar_3b067 : f_Y := (yJ2_getChar_3b067, cJ2_getChar_3b067, 2, (some .char))
theorem tw317 : Cond.code yJ2_getChar_3b067 cJ2_getChar_3b067 2 (some .char) ∈ tb := tb_in (List.mem_of_getElem? (i := 317) (by decide +kernel)) rfl
theorem lcJ2_getChar_3b067 : f_LC mJ2_getChar_3b067 := ⟨tw317, tw58⟩
theorem hdJ2_getChar_3b067 : f_hd mJ2_getChar_3b067 2 := ⟨⟨by decide +kernel, by decide +kernel, by decide +kernel⟩, by decide⟩
theorem tw315 : Cond.methodLink RJ2 71 yJ2_getChar_3b067 ∈ tb := tb_in (List.mem_of_getElem? (i := 315) (by decide +kernel)) rfl
theorem tw316 : Cond.static yJ2_getChar_3b067 ∈ tb := tb_in (List.mem_of_getElem? (i := 316) (by decide +kernel)) rfl
theorem mlJ2_71 : f_LS RJ2 71 mJ2_getChar_3b067 2 := ⟨lcJ2_getChar_3b067, tw316, Or.inl tw315, hdJ2_getChar_3b067⟩
theorem tw324 : Cond.methodLink RX7 93 yX3_add ∈ tb := tb_in (List.mem_of_getElem? (i := 324) (by decide +kernel)) rfl
theorem mlX7_93 : f_LV RX7 93 mX3_add 1 := ⟨lcX3_add, tw172, tw173, Or.inl tw324, hdX3_add⟩
abbrev mX5_readAll : f_Y := (yX5_readAll, cX5_readAll, 4, (some .int))
theorem tw328 : Cond.code yX5_readAll cX5_readAll 4 (some .int) ∈ tb := tb_in (List.mem_of_getElem? (i := 328) (by decide +kernel)) rfl
theorem tw50 : Cond.initialized RX5 ∈ tb := tb_in (List.mem_of_getElem? (i := 50) (by decide +kernel)) rfl
theorem lcX5_readAll : f_LC mX5_readAll := ⟨tw328, tw50⟩
theorem hdX5_readAll : f_hd mX5_readAll 0 := ⟨⟨by decide +kernel, by decide +kernel, by decide +kernel⟩, by decide⟩
theorem tw325 : Cond.methodLink RX7 96 yX5_readAll ∈ tb := tb_in (List.mem_of_getElem? (i := 325) (by decide +kernel)) rfl
theorem tw326 : Cond.instanceMethod yX5_readAll ∈ tb := tb_in (List.mem_of_getElem? (i := 326) (by decide +kernel)) rfl
theorem tw327 : Cond.selects yX5_readAll.cls yX5_readAll yX5_readAll ∈ tb := tb_in (List.mem_of_getElem? (i := 327) (by decide +kernel)) rfl
theorem mlX7_96 : f_LV RX7 96 mX5_readAll 0 := ⟨lcX5_readAll, tw326, tw327, Or.inl tw325, hdX5_readAll⟩
abbrev mX1_clear : f_Y := (yX1_clear, cX1_clear, 1, none)
theorem tw332 : Cond.code yX1_clear cX1_clear 1 none ∈ tb := tb_in (List.mem_of_getElem? (i := 332) (by decide +kernel)) rfl
theorem tw49 : Cond.initialized RX1 ∈ tb := tb_in (List.mem_of_getElem? (i := 49) (by decide +kernel)) rfl
theorem lcX1_clear : f_LC mX1_clear := ⟨tw332, tw49⟩
theorem hdX1_clear : f_hd mX1_clear 0 := ⟨⟨by decide +kernel, by decide +kernel, by decide +kernel⟩, by decide⟩
theorem tw329 : Cond.methodLink RX5 27 yX1_clear ∈ tb := tb_in (List.mem_of_getElem? (i := 329) (by decide +kernel)) rfl
theorem tw330 : Cond.instanceMethod yX1_clear ∈ tb := tb_in (List.mem_of_getElem? (i := 330) (by decide +kernel)) rfl
theorem tw331 : Cond.selects yX1_clear.cls yX1_clear yX1_clear ∈ tb := tb_in (List.mem_of_getElem? (i := 331) (by decide +kernel)) rfl
theorem mlX5_27 : f_LV RX5 27 mX1_clear 0 := ⟨lcX1_clear, tw330, tw331, Or.inl tw329, hdX1_clear⟩
abbrev mX3_clear : f_Y := (yX3_clear, cX3_clear, 1, none)
theorem tw336 : Cond.code yX3_clear cX3_clear 1 none ∈ tb := tb_in (List.mem_of_getElem? (i := 336) (by decide +kernel)) rfl
theorem lcX3_clear : f_LC mX3_clear := ⟨tw336, tw47⟩
theorem hdX3_clear : f_hd mX3_clear 0 := ⟨⟨by decide +kernel, by decide +kernel, by decide +kernel⟩, by decide⟩
theorem tw333 : Cond.methodLink RX1 47 yX3_clear ∈ tb := tb_in (List.mem_of_getElem? (i := 333) (by decide +kernel)) rfl
theorem tw334 : Cond.instanceMethod yX3_clear ∈ tb := tb_in (List.mem_of_getElem? (i := 334) (by decide +kernel)) rfl
theorem tw335 : Cond.selects yX3_clear.cls yX3_clear yX3_clear ∈ tb := tb_in (List.mem_of_getElem? (i := 335) (by decide +kernel)) rfl
theorem mlX1_47 : f_LV RX1 47 mX3_clear 0 := ⟨lcX3_clear, tw334, tw335, Or.inl tw333, hdX3_clear⟩
abbrev mX3_size : f_Y := (yX3_size, cX3_size, 1, (some .int))
theorem tw340 : Cond.code yX3_size cX3_size 1 (some .int) ∈ tb := tb_in (List.mem_of_getElem? (i := 340) (by decide +kernel)) rfl
theorem lcX3_size : f_LC mX3_size := ⟨tw340, tw47⟩
theorem hdX3_size : f_hd mX3_size 0 := ⟨⟨by decide +kernel, by decide +kernel, by decide +kernel⟩, by decide⟩
theorem tw337 : Cond.methodLink RX5 32 yX3_size ∈ tb := tb_in (List.mem_of_getElem? (i := 337) (by decide +kernel)) rfl
theorem tw338 : Cond.instanceMethod yX3_size ∈ tb := tb_in (List.mem_of_getElem? (i := 338) (by decide +kernel)) rfl
theorem tw339 : Cond.selects yX3_size.cls yX3_size yX3_size ∈ tb := tb_in (List.mem_of_getElem? (i := 339) (by decide +kernel)) rfl
theorem mlX5_32 : f_LV RX5 32 mX3_size 0 := ⟨lcX3_size, tw338, tw339, Or.inl tw337, hdX3_size⟩
abbrev mX5_readItem : f_Y := (yX5_readItem, cX5_readItem, 6, (some .int))
theorem tw344 : Cond.code yX5_readItem cX5_readItem 6 (some .int) ∈ tb := tb_in (List.mem_of_getElem? (i := 344) (by decide +kernel)) rfl
theorem lcX5_readItem : f_LC mX5_readItem := ⟨tw344, tw50⟩
theorem hdX5_readItem : f_hd mX5_readItem 1 := ⟨⟨by decide +kernel, by decide +kernel, by decide +kernel⟩, by decide⟩
theorem tw341 : Cond.methodLink RX5 36 yX5_readItem ∈ tb := tb_in (List.mem_of_getElem? (i := 341) (by decide +kernel)) rfl
theorem tw343 : Cond.instanceMethod yX5_readItem ∈ tb := tb_in (List.mem_of_getElem? (i := 343) (by decide +kernel)) rfl
theorem tw0 : Cond.selects yX5_readItem.cls yX5_readItem yX5_readItem ∈ tb := tb_in (List.mem_of_getElem? (i := 0) (by decide +kernel)) rfl
theorem mlX5_36 : f_LV RX5 36 mX5_readItem 1 := ⟨lcX5_readItem, tw343, tw0, Or.inl tw341, hdX5_readItem⟩
abbrev mX3_at : f_Y := (yX3_at, cX3_at, 2, (some .int))
theorem tw348 : Cond.code yX3_at cX3_at 2 (some .int) ∈ tb := tb_in (List.mem_of_getElem? (i := 348) (by decide +kernel)) rfl
theorem lcX3_at : f_LC mX3_at := ⟨tw348, tw47⟩
theorem hdX3_at : f_hd mX3_at 1 := ⟨⟨by decide +kernel, by decide +kernel, by decide +kernel⟩, by decide⟩
theorem tw345 : Cond.methodLink RX5 40 yX3_at ∈ tb := tb_in (List.mem_of_getElem? (i := 345) (by decide +kernel)) rfl
theorem tw346 : Cond.instanceMethod yX3_at ∈ tb := tb_in (List.mem_of_getElem? (i := 346) (by decide +kernel)) rfl
theorem tw347 : Cond.selects yX3_at.cls yX3_at yX3_at ∈ tb := tb_in (List.mem_of_getElem? (i := 347) (by decide +kernel)) rfl
theorem mlX5_40 : f_LV RX5 40 mX3_at 1 := ⟨lcX3_at, tw346, tw347, Or.inl tw345, hdX3_at⟩
abbrev mX5_numbersBehind : f_Y := (yX5_numbersBehind, cX5_numbersBehind, 1, (some .int))
theorem tw351 : Cond.code yX5_numbersBehind cX5_numbersBehind 1 (some .int) ∈ tb := tb_in (List.mem_of_getElem? (i := 351) (by decide +kernel)) rfl
theorem lcX5_numbersBehind : f_LC mX5_numbersBehind := ⟨tw351, tw50⟩
theorem hdX5_numbersBehind : f_hd mX5_numbersBehind 1 := ⟨⟨by decide +kernel, by decide +kernel, by decide +kernel⟩, by decide⟩
theorem tw349 : Cond.methodLink RX5 43 yX5_numbersBehind ∈ tb := tb_in (List.mem_of_getElem? (i := 349) (by decide +kernel)) rfl
theorem tw350 : Cond.static yX5_numbersBehind ∈ tb := tb_in (List.mem_of_getElem? (i := 350) (by decide +kernel)) rfl
theorem mlX5_43 : f_LS RX5 43 mX5_numbersBehind 1 := ⟨lcX5_numbersBehind, tw350, Or.inl tw349, hdX5_numbersBehind⟩
theorem tw352 : Cond.methodLink RX5 46 yX3_clear ∈ tb := tb_in (List.mem_of_getElem? (i := 352) (by decide +kernel)) rfl
theorem mlX5_46 : f_LV RX5 46 mX3_clear 0 := ⟨lcX3_clear, tw334, tw335, Or.inl tw352, hdX3_clear⟩
abbrev mX5_readNumber : f_Y := (yX5_readNumber, cX5_readNumber, 5, (some .int))
theorem tw356 : Cond.code yX5_readNumber cX5_readNumber 5 (some .int) ∈ tb := tb_in (List.mem_of_getElem? (i := 356) (by decide +kernel)) rfl
theorem lcX5_readNumber : f_LC mX5_readNumber := ⟨tw356, tw50⟩
theorem hdX5_readNumber : f_hd mX5_readNumber 1 := ⟨⟨by decide +kernel, by decide +kernel, by decide +kernel⟩, by decide⟩
theorem tw353 : Cond.methodLink RX5 47 yX5_readNumber ∈ tb := tb_in (List.mem_of_getElem? (i := 353) (by decide +kernel)) rfl
theorem tw355 : Cond.instanceMethod yX5_readNumber ∈ tb := tb_in (List.mem_of_getElem? (i := 355) (by decide +kernel)) rfl
theorem tw1 : Cond.selects yX5_readNumber.cls yX5_readNumber yX5_readNumber ∈ tb := tb_in (List.mem_of_getElem? (i := 1) (by decide +kernel)) rfl
theorem mlX5_47 : f_LV RX5 47 mX5_readNumber 1 := ⟨lcX5_readNumber, tw355, tw1, Or.inl tw353, hdX5_readNumber⟩
abbrev mX5_isFigure : f_Y := (yX5_isFigure, cX5_isFigure, 1, (some .boolean))
theorem tw359 : Cond.code yX5_isFigure cX5_isFigure 1 (some .boolean) ∈ tb := tb_in (List.mem_of_getElem? (i := 359) (by decide +kernel)) rfl
theorem lcX5_isFigure : f_LC mX5_isFigure := ⟨tw359, tw50⟩
theorem hdX5_isFigure : f_hd mX5_isFigure 1 := ⟨⟨by decide +kernel, by decide +kernel, by decide +kernel⟩, by decide⟩
theorem tw357 : Cond.methodLink RX5 54 yX5_isFigure ∈ tb := tb_in (List.mem_of_getElem? (i := 357) (by decide +kernel)) rfl
theorem tw358 : Cond.static yX5_isFigure ∈ tb := tb_in (List.mem_of_getElem? (i := 358) (by decide +kernel)) rfl
theorem mlX5_54 : f_LS RX5 54 mX5_isFigure 1 := ⟨lcX5_isFigure, tw358, Or.inl tw357, hdX5_isFigure⟩
theorem tw360 : Cond.methodLink RX5 57 yX3_add ∈ tb := tb_in (List.mem_of_getElem? (i := 360) (by decide +kernel)) rfl
theorem mlX5_57 : f_LV RX5 57 mX3_add 1 := ⟨lcX3_add, tw172, tw173, Or.inl tw360, hdX3_add⟩
abbrev mX5_takeItem : f_Y := (yX5_takeItem, cX5_takeItem, 3, (some .boolean))
theorem tw364 : Cond.code yX5_takeItem cX5_takeItem 3 (some .boolean) ∈ tb := tb_in (List.mem_of_getElem? (i := 364) (by decide +kernel)) rfl
theorem lcX5_takeItem : f_LC mX5_takeItem := ⟨tw364, tw50⟩
theorem hdX5_takeItem : f_hd mX5_takeItem 1 := ⟨⟨by decide +kernel, by decide +kernel, by decide +kernel⟩, by decide⟩
theorem tw361 : Cond.methodLink RX5 50 yX5_takeItem ∈ tb := tb_in (List.mem_of_getElem? (i := 361) (by decide +kernel)) rfl
theorem tw363 : Cond.instanceMethod yX5_takeItem ∈ tb := tb_in (List.mem_of_getElem? (i := 363) (by decide +kernel)) rfl
theorem tw2 : Cond.selects yX5_takeItem.cls yX5_takeItem yX5_takeItem ∈ tb := tb_in (List.mem_of_getElem? (i := 2) (by decide +kernel)) rfl
theorem mlX5_50 : f_LV RX5 50 mX5_takeItem 1 := ⟨lcX5_takeItem, tw363, tw2, Or.inl tw361, hdX5_takeItem⟩
abbrev mX5_takeKind : f_Y := (yX5_takeKind, cX5_takeKind, 1, (some .boolean))
theorem tw368 : Cond.code yX5_takeKind cX5_takeKind 1 (some .boolean) ∈ tb := tb_in (List.mem_of_getElem? (i := 368) (by decide +kernel)) rfl
theorem lcX5_takeKind : f_LC mX5_takeKind := ⟨tw368, tw50⟩
theorem hdX5_takeKind : f_hd mX5_takeKind 0 := ⟨⟨by decide +kernel, by decide +kernel, by decide +kernel⟩, by decide⟩
theorem tw365 : Cond.methodLink RX5 60 yX5_takeKind ∈ tb := tb_in (List.mem_of_getElem? (i := 365) (by decide +kernel)) rfl
theorem tw367 : Cond.instanceMethod yX5_takeKind ∈ tb := tb_in (List.mem_of_getElem? (i := 367) (by decide +kernel)) rfl
theorem tw3 : Cond.selects yX5_takeKind.cls yX5_takeKind yX5_takeKind ∈ tb := tb_in (List.mem_of_getElem? (i := 3) (by decide +kernel)) rfl
theorem mlX5_60 : f_LV RX5 60 mX5_takeKind 0 := ⟨lcX5_takeKind, tw367, tw3, Or.inl tw365, hdX5_takeKind⟩
abbrev mX3_isFull : f_Y := (yX3_isFull, cX3_isFull, 1, (some .boolean))
theorem tw372 : Cond.code yX3_isFull cX3_isFull 1 (some .boolean) ∈ tb := tb_in (List.mem_of_getElem? (i := 372) (by decide +kernel)) rfl
theorem lcX3_isFull : f_LC mX3_isFull := ⟨tw372, tw47⟩
theorem hdX3_isFull : f_hd mX3_isFull 0 := ⟨⟨by decide +kernel, by decide +kernel, by decide +kernel⟩, by decide⟩
theorem tw369 : Cond.methodLink RX5 83 yX3_isFull ∈ tb := tb_in (List.mem_of_getElem? (i := 369) (by decide +kernel)) rfl
theorem tw370 : Cond.instanceMethod yX3_isFull ∈ tb := tb_in (List.mem_of_getElem? (i := 370) (by decide +kernel)) rfl
theorem tw371 : Cond.selects yX3_isFull.cls yX3_isFull yX3_isFull ∈ tb := tb_in (List.mem_of_getElem? (i := 371) (by decide +kernel)) rfl
theorem mlX5_83 : f_LV RX5 83 mX3_isFull 0 := ⟨lcX3_isFull, tw370, tw371, Or.inl tw369, hdX3_isFull⟩
abbrev mX7_isWithin : f_Y := (yX7_isWithin, cX7_isWithin, 3, (some .boolean))
theorem tw375 : Cond.code yX7_isWithin cX7_isWithin 3 (some .boolean) ∈ tb := tb_in (List.mem_of_getElem? (i := 375) (by decide +kernel)) rfl
theorem tw46 : Cond.initialized RX7 ∈ tb := tb_in (List.mem_of_getElem? (i := 46) (by decide +kernel)) rfl
theorem lcX7_isWithin : f_LC mX7_isWithin := ⟨tw375, tw46⟩
theorem hdX7_isWithin : f_hd mX7_isWithin 3 := ⟨⟨by decide +kernel, by decide +kernel, by decide +kernel⟩, by decide⟩
theorem tw373 : Cond.methodLinkNest RX5 86 yX7_isWithin "AsWithTheLast" ∈ nw := nw_in (List.mem_of_getElem? (i := 373) (by decide +kernel)) rfl
theorem tw374 : Cond.static yX7_isWithin ∈ tb := tb_in (List.mem_of_getElem? (i := 374) (by decide +kernel)) rfl
theorem mlX5_86 : f_LS RX5 86 mX7_isWithin 3 := ⟨lcX7_isWithin, tw374, Or.inr ⟨_, tw373⟩, hdX7_isWithin⟩
abbrev mX7_isDoing : f_Y := (yX7_isDoing, cX7_isDoing, 1, (some .boolean))
theorem tw378 : Cond.code yX7_isDoing cX7_isDoing 1 (some .boolean) ∈ tb := tb_in (List.mem_of_getElem? (i := 378) (by decide +kernel)) rfl
theorem lcX7_isDoing : f_LC mX7_isDoing := ⟨tw378, tw46⟩
theorem hdX7_isDoing : f_hd mX7_isDoing 1 := ⟨⟨by decide +kernel, by decide +kernel, by decide +kernel⟩, by decide⟩
theorem tw376 : Cond.methodLinkNest RX5 74 yX7_isDoing "AsWithTheLast" ∈ nw := nw_in (List.mem_of_getElem? (i := 376) (by decide +kernel)) rfl
theorem tw377 : Cond.static yX7_isDoing ∈ tb := tb_in (List.mem_of_getElem? (i := 377) (by decide +kernel)) rfl
theorem mlX5_74 : f_LS RX5 74 mX7_isDoing 1 := ⟨lcX7_isDoing, tw377, Or.inr ⟨_, tw376⟩, hdX7_isDoing⟩
theorem tw379 : Cond.methodLink RX7 105 yX7_isWithin ∈ tb := tb_in (List.mem_of_getElem? (i := 379) (by decide +kernel)) rfl
theorem mlX7_105 : f_LS RX7 105 mX7_isWithin 3 := ⟨lcX7_isWithin, tw374, Or.inl tw379, hdX7_isWithin⟩
abbrev mX7_isSort : f_Y := (yX7_isSort, cX7_isSort, 1, (some .boolean))
theorem tw382 : Cond.code yX7_isSort cX7_isSort 1 (some .boolean) ∈ tb := tb_in (List.mem_of_getElem? (i := 382) (by decide +kernel)) rfl
theorem lcX7_isSort : f_LC mX7_isSort := ⟨tw382, tw46⟩
theorem hdX7_isSort : f_hd mX7_isSort 1 := ⟨⟨by decide +kernel, by decide +kernel, by decide +kernel⟩, by decide⟩
theorem tw380 : Cond.methodLinkNest RX5 68 yX7_isSort "AsWithTheLast" ∈ nw := nw_in (List.mem_of_getElem? (i := 380) (by decide +kernel)) rfl
theorem tw381 : Cond.static yX7_isSort ∈ tb := tb_in (List.mem_of_getElem? (i := 381) (by decide +kernel)) rfl
theorem mlX5_68 : f_LS RX5 68 mX7_isSort 1 := ⟨lcX7_isSort, tw381, Or.inr ⟨_, tw380⟩, hdX7_isSort⟩
abbrev mX5_takeErrand : f_Y := (yX5_takeErrand, cX5_takeErrand, 2, (some .boolean))
theorem tw386 : Cond.code yX5_takeErrand cX5_takeErrand 2 (some .boolean) ∈ tb := tb_in (List.mem_of_getElem? (i := 386) (by decide +kernel)) rfl
theorem lcX5_takeErrand : f_LC mX5_takeErrand := ⟨tw386, tw50⟩
theorem hdX5_takeErrand : f_hd mX5_takeErrand 1 := ⟨⟨by decide +kernel, by decide +kernel, by decide +kernel⟩, by decide⟩
theorem tw383 : Cond.methodLink RX5 77 yX5_takeErrand ∈ tb := tb_in (List.mem_of_getElem? (i := 383) (by decide +kernel)) rfl
theorem tw385 : Cond.instanceMethod yX5_takeErrand ∈ tb := tb_in (List.mem_of_getElem? (i := 385) (by decide +kernel)) rfl
theorem tw4 : Cond.selects yX5_takeErrand.cls yX5_takeErrand yX5_takeErrand ∈ tb := tb_in (List.mem_of_getElem? (i := 4) (by decide +kernel)) rfl
theorem mlX5_77 : f_LV RX5 77 mX5_takeErrand 1 := ⟨lcX5_takeErrand, tw385, tw4, Or.inl tw383, hdX5_takeErrand⟩
abbrev mX1_isKind : f_Y := (yX1_isKind, cX1_isKind, 2, (some .boolean))
theorem tw390 : Cond.code yX1_isKind cX1_isKind 2 (some .boolean) ∈ tb := tb_in (List.mem_of_getElem? (i := 390) (by decide +kernel)) rfl
theorem lcX1_isKind : f_LC mX1_isKind := ⟨tw390, tw49⟩
theorem hdX1_isKind : f_hd mX1_isKind 1 := ⟨⟨by decide +kernel, by decide +kernel, by decide +kernel⟩, by decide⟩
theorem tw387 : Cond.methodLink RX5 102 yX1_isKind ∈ tb := tb_in (List.mem_of_getElem? (i := 387) (by decide +kernel)) rfl
theorem tw388 : Cond.instanceMethod yX1_isKind ∈ tb := tb_in (List.mem_of_getElem? (i := 388) (by decide +kernel)) rfl
theorem tw389 : Cond.selects yX1_isKind.cls yX1_isKind yX1_isKind ∈ tb := tb_in (List.mem_of_getElem? (i := 389) (by decide +kernel)) rfl
theorem mlX5_102 : f_LV RX5 102 mX1_isKind 1 := ⟨lcX1_isKind, tw388, tw389, Or.inl tw387, hdX1_isKind⟩
theorem tw391 : Cond.methodLink RX1 35 yX3_size ∈ tb := tb_in (List.mem_of_getElem? (i := 391) (by decide +kernel)) rfl
theorem mlX1_35 : f_LV RX1 35 mX3_size 0 := ⟨lcX3_size, tw338, tw339, Or.inl tw391, hdX3_size⟩
abbrev mX1_copyFrom : f_Y := (yX1_copyFrom, cX1_copyFrom, 2, none)
theorem tw395 : Cond.code yX1_copyFrom cX1_copyFrom 2 none ∈ tb := tb_in (List.mem_of_getElem? (i := 395) (by decide +kernel)) rfl
theorem lcX1_copyFrom : f_LC mX1_copyFrom := ⟨tw395, tw49⟩
theorem hdX1_copyFrom : f_hd mX1_copyFrom 1 := ⟨⟨by decide +kernel, by decide +kernel, by decide +kernel⟩, by decide⟩
theorem tw392 : Cond.methodLink RX7 99 yX1_copyFrom ∈ tb := tb_in (List.mem_of_getElem? (i := 392) (by decide +kernel)) rfl
theorem tw393 : Cond.instanceMethod yX1_copyFrom ∈ tb := tb_in (List.mem_of_getElem? (i := 393) (by decide +kernel)) rfl
theorem tw394 : Cond.selects yX1_copyFrom.cls yX1_copyFrom yX1_copyFrom ∈ tb := tb_in (List.mem_of_getElem? (i := 394) (by decide +kernel)) rfl
theorem mlX7_99 : f_LV RX7 99 mX1_copyFrom 1 := ⟨lcX1_copyFrom, tw393, tw394, Or.inl tw392, hdX1_copyFrom⟩
abbrev mX3_copyFrom : f_Y := (yX3_copyFrom, cX3_copyFrom, 2, none)
theorem tw399 : Cond.code yX3_copyFrom cX3_copyFrom 2 none ∈ tb := tb_in (List.mem_of_getElem? (i := 399) (by decide +kernel)) rfl
theorem lcX3_copyFrom : f_LC mX3_copyFrom := ⟨tw399, tw47⟩
theorem hdX3_copyFrom : f_hd mX3_copyFrom 1 := ⟨⟨by decide +kernel, by decide +kernel, by decide +kernel⟩, by decide⟩
theorem tw396 : Cond.methodLink RX1 57 yX3_copyFrom ∈ tb := tb_in (List.mem_of_getElem? (i := 396) (by decide +kernel)) rfl
theorem tw397 : Cond.instanceMethod yX3_copyFrom ∈ tb := tb_in (List.mem_of_getElem? (i := 397) (by decide +kernel)) rfl
theorem tw398 : Cond.selects yX3_copyFrom.cls yX3_copyFrom yX3_copyFrom ∈ tb := tb_in (List.mem_of_getElem? (i := 398) (by decide +kernel)) rfl
theorem mlX1_57 : f_LV RX1 57 mX3_copyFrom 1 := ⟨lcX3_copyFrom, tw397, tw398, Or.inl tw396, hdX3_copyFrom⟩
theorem mlX3_35 : Cond.methodLink RX3 35 Lib.Math.min.name ∈ tb := tb_in (List.mem_of_getElem? (i := 400) (by decide +kernel)) (by decide +kernel)
theorem mlX3_38 : Cond.methodLink RX3 38 arraycopyName ∈ tb := tb_in (List.mem_of_getElem? (i := 403) (by decide +kernel)) (by decide +kernel)
theorem tw406 : Cond.methodLink RX7 102 yX3_clear ∈ tb := tb_in (List.mem_of_getElem? (i := 406) (by decide +kernel)) rfl
theorem mlX7_102 : f_LV RX7 102 mX3_clear 0 := ⟨lcX3_clear, tw334, tw335, Or.inl tw406, hdX3_clear⟩
abbrev mX7_write : f_Y := (yX7_write, cX7_write, 2, (some .int))
theorem tw448 : Cond.code yX7_write cX7_write 2 (some .int) ∈ tb := tb_in (List.mem_of_getElem? (i := 448) (by decide +kernel)) rfl
theorem lcX7_write : f_LC mX7_write := ⟨tw448, tw46⟩
theorem hdX7_write : f_hd mX7_write 1 := ⟨⟨by decide +kernel, by decide +kernel, by decide +kernel⟩, by decide⟩
theorem tw445 : Cond.methodLink RL 13 yX7_write ∈ tb := tb_in (List.mem_of_getElem? (i := 445) (by decide +kernel)) rfl
theorem tw446 : Cond.instanceMethod yX7_write ∈ tb := tb_in (List.mem_of_getElem? (i := 446) (by decide +kernel)) rfl
theorem tw447 : Cond.selects yX7_write.cls yX7_write yX7_write ∈ tb := tb_in (List.mem_of_getElem? (i := 447) (by decide +kernel)) rfl
theorem mlL_13 : f_LV RL 13 mX7_write 1 := ⟨lcX7_write, tw446, tw447, Or.inl tw445, hdX7_write⟩
theorem tw449 : Cond.methodLink RX7 109 yX3_isFull ∈ tb := tb_in (List.mem_of_getElem? (i := 449) (by decide +kernel)) rfl
theorem mlX7_109 : f_LV RX7 109 mX3_isFull 0 := ⟨lcX3_isFull, tw370, tw371, Or.inl tw449, hdX3_isFull⟩
theorem tw450 : Cond.methodLink RX7 113 yX3_size ∈ tb := tb_in (List.mem_of_getElem? (i := 450) (by decide +kernel)) rfl
theorem mlX7_113 : f_LV RX7 113 mX3_size 0 := ⟨lcX3_size, tw338, tw339, Or.inl tw450, hdX3_size⟩
abbrev mX7_wipe : f_Y := (yX7_wipe, cX7_wipe, 2, (some .int))
theorem tw454 : Cond.code yX7_wipe cX7_wipe 2 (some .int) ∈ tb := tb_in (List.mem_of_getElem? (i := 454) (by decide +kernel)) rfl
theorem lcX7_wipe : f_LC mX7_wipe := ⟨tw454, tw46⟩
theorem hdX7_wipe : f_hd mX7_wipe 0 := ⟨⟨by decide +kernel, by decide +kernel, by decide +kernel⟩, by decide⟩
theorem tw451 : Cond.methodLink RL 18 yX7_wipe ∈ tb := tb_in (List.mem_of_getElem? (i := 451) (by decide +kernel)) rfl
theorem tw452 : Cond.instanceMethod yX7_wipe ∈ tb := tb_in (List.mem_of_getElem? (i := 452) (by decide +kernel)) rfl
theorem tw453 : Cond.selects yX7_wipe.cls yX7_wipe yX7_wipe ∈ tb := tb_in (List.mem_of_getElem? (i := 453) (by decide +kernel)) rfl
theorem mlL_18 : f_LV RL 18 mX7_wipe 0 := ⟨lcX7_wipe, tw452, tw453, Or.inl tw451, hdX7_wipe⟩
abbrev mX7_fault : f_Y := (yX7_fault, cX7_fault, 1, (some .int))
theorem tw458 : Cond.code yX7_fault cX7_fault 1 (some .int) ∈ tb := tb_in (List.mem_of_getElem? (i := 458) (by decide +kernel)) rfl
theorem lcX7_fault : f_LC mX7_fault := ⟨tw458, tw46⟩
theorem hdX7_fault : f_hd mX7_fault 0 := ⟨⟨by decide +kernel, by decide +kernel, by decide +kernel⟩, by decide⟩
theorem tw455 : Cond.methodLink RL 23 yX7_fault ∈ tb := tb_in (List.mem_of_getElem? (i := 455) (by decide +kernel)) rfl
theorem tw456 : Cond.instanceMethod yX7_fault ∈ tb := tb_in (List.mem_of_getElem? (i := 456) (by decide +kernel)) rfl
theorem tw457 : Cond.selects yX7_fault.cls yX7_fault yX7_fault ∈ tb := tb_in (List.mem_of_getElem? (i := 457) (by decide +kernel)) rfl
theorem mlL_23 : f_LV RL 23 mX7_fault 0 := ⟨lcX7_fault, tw456, tw457, Or.inl tw455, hdX7_fault⟩
abbrev mX7_lay : f_Y := (yX7_lay, cX7_lay, 1, (some .int))
theorem tw462 : Cond.code yX7_lay cX7_lay 1 (some .int) ∈ tb := tb_in (List.mem_of_getElem? (i := 462) (by decide +kernel)) rfl
theorem lcX7_lay : f_LC mX7_lay := ⟨tw462, tw46⟩
theorem hdX7_lay : f_hd mX7_lay 0 := ⟨⟨by decide +kernel, by decide +kernel, by decide +kernel⟩, by decide⟩
theorem tw459 : Cond.methodLink RL 27 yX7_lay ∈ tb := tb_in (List.mem_of_getElem? (i := 459) (by decide +kernel)) rfl
theorem tw460 : Cond.instanceMethod yX7_lay ∈ tb := tb_in (List.mem_of_getElem? (i := 460) (by decide +kernel)) rfl
theorem tw461 : Cond.selects yX7_lay.cls yX7_lay yX7_lay ∈ tb := tb_in (List.mem_of_getElem? (i := 461) (by decide +kernel)) rfl
theorem mlL_27 : f_LV RL 27 mX7_lay 0 := ⟨lcX7_lay, tw460, tw461, Or.inl tw459, hdX7_lay⟩
abbrev mX1_kinds : f_Y := (yX1_kinds, cX1_kinds, 1, (some .int))
theorem tw466 : Cond.code yX1_kinds cX1_kinds 1 (some .int) ∈ tb := tb_in (List.mem_of_getElem? (i := 466) (by decide +kernel)) rfl
theorem lcX1_kinds : f_LC mX1_kinds := ⟨tw466, tw49⟩
theorem hdX1_kinds : f_hd mX1_kinds 0 := ⟨⟨by decide +kernel, by decide +kernel, by decide +kernel⟩, by decide⟩
theorem tw463 : Cond.methodLink RX7 116 yX1_kinds ∈ tb := tb_in (List.mem_of_getElem? (i := 463) (by decide +kernel)) rfl
theorem tw464 : Cond.instanceMethod yX1_kinds ∈ tb := tb_in (List.mem_of_getElem? (i := 464) (by decide +kernel)) rfl
theorem tw465 : Cond.selects yX1_kinds.cls yX1_kinds yX1_kinds ∈ tb := tb_in (List.mem_of_getElem? (i := 465) (by decide +kernel)) rfl
theorem mlX7_116 : f_LV RX7 116 mX1_kinds 0 := ⟨lcX1_kinds, tw464, tw465, Or.inl tw463, hdX1_kinds⟩
abbrev mX2_clear : f_Y := (yX2_clear, cX2_clear, 1, none)
theorem tw470 : Cond.code yX2_clear cX2_clear 1 none ∈ tb := tb_in (List.mem_of_getElem? (i := 470) (by decide +kernel)) rfl
theorem tw51 : Cond.initialized RX2 ∈ tb := tb_in (List.mem_of_getElem? (i := 51) (by decide +kernel)) rfl
theorem lcX2_clear : f_LC mX2_clear := ⟨tw470, tw51⟩
theorem hdX2_clear : f_hd mX2_clear 0 := ⟨⟨by decide +kernel, by decide +kernel, by decide +kernel⟩, by decide⟩
theorem tw467 : Cond.methodLink RX7 119 yX2_clear ∈ tb := tb_in (List.mem_of_getElem? (i := 467) (by decide +kernel)) rfl
theorem tw468 : Cond.instanceMethod yX2_clear ∈ tb := tb_in (List.mem_of_getElem? (i := 468) (by decide +kernel)) rfl
theorem tw469 : Cond.selects yX2_clear.cls yX2_clear yX2_clear ∈ tb := tb_in (List.mem_of_getElem? (i := 469) (by decide +kernel)) rfl
theorem mlX7_119 : f_LV RX7 119 mX2_clear 0 := ⟨lcX2_clear, tw468, tw469, Or.inl tw467, hdX2_clear⟩
theorem tw471 : Cond.methodLink RX2 27 yX3_clear ∈ tb := tb_in (List.mem_of_getElem? (i := 471) (by decide +kernel)) rfl
theorem mlX2_27 : f_LV RX2 27 mX3_clear 0 := ⟨lcX3_clear, tw334, tw335, Or.inl tw471, hdX3_clear⟩
abbrev mX6_clear : f_Y := (yX6_clear, cX6_clear, 1, none)
theorem tw475 : Cond.code yX6_clear cX6_clear 1 none ∈ tb := tb_in (List.mem_of_getElem? (i := 475) (by decide +kernel)) rfl
theorem tw52 : Cond.initialized RX6 ∈ tb := tb_in (List.mem_of_getElem? (i := 52) (by decide +kernel)) rfl
theorem lcX6_clear : f_LC mX6_clear := ⟨tw475, tw52⟩
theorem hdX6_clear : f_hd mX6_clear 0 := ⟨⟨by decide +kernel, by decide +kernel, by decide +kernel⟩, by decide⟩
theorem tw472 : Cond.methodLink RX7 120 yX6_clear ∈ tb := tb_in (List.mem_of_getElem? (i := 472) (by decide +kernel)) rfl
theorem tw473 : Cond.instanceMethod yX6_clear ∈ tb := tb_in (List.mem_of_getElem? (i := 473) (by decide +kernel)) rfl
theorem tw474 : Cond.selects yX6_clear.cls yX6_clear yX6_clear ∈ tb := tb_in (List.mem_of_getElem? (i := 474) (by decide +kernel)) rfl
theorem mlX7_120 : f_LV RX7 120 mX6_clear 0 := ⟨lcX6_clear, tw473, tw474, Or.inl tw472, hdX6_clear⟩
abbrev mX7_kind : f_Y := (yX7_kind, cX7_kind, 3, (some .int))
theorem tw479 : Cond.code yX7_kind cX7_kind 3 (some .int) ∈ tb := tb_in (List.mem_of_getElem? (i := 479) (by decide +kernel)) rfl
theorem lcX7_kind : f_LC mX7_kind := ⟨tw479, tw46⟩
theorem hdX7_kind : f_hd mX7_kind 2 := ⟨⟨by decide +kernel, by decide +kernel, by decide +kernel⟩, by decide⟩
theorem tw476 : Cond.methodLink RL 31 yX7_kind ∈ tb := tb_in (List.mem_of_getElem? (i := 476) (by decide +kernel)) rfl
theorem tw477 : Cond.instanceMethod yX7_kind ∈ tb := tb_in (List.mem_of_getElem? (i := 477) (by decide +kernel)) rfl
theorem tw478 : Cond.selects yX7_kind.cls yX7_kind yX7_kind ∈ tb := tb_in (List.mem_of_getElem? (i := 478) (by decide +kernel)) rfl
theorem mlL_31 : f_LV RL 31 mX7_kind 2 := ⟨lcX7_kind, tw477, tw478, Or.inl tw476, hdX7_kind⟩
theorem tw480 : Cond.methodLink RX7 121 yX1_isKind ∈ tb := tb_in (List.mem_of_getElem? (i := 480) (by decide +kernel)) rfl
theorem mlX7_121 : f_LV RX7 121 mX1_isKind 1 := ⟨lcX1_isKind, tw388, tw389, Or.inl tw480, hdX1_isKind⟩
theorem tw481 : Cond.methodLink RX7 128 yX3_at ∈ tb := tb_in (List.mem_of_getElem? (i := 481) (by decide +kernel)) rfl
theorem mlX7_128 : f_LV RX7 128 mX3_at 1 := ⟨lcX3_at, tw346, tw347, Or.inl tw481, hdX3_at⟩
abbrev mX7_errand : f_Y := (yX7_errand, cX7_errand, 2, (some .int))
theorem tw485 : Cond.code yX7_errand cX7_errand 2 (some .int) ∈ tb := tb_in (List.mem_of_getElem? (i := 485) (by decide +kernel)) rfl
theorem lcX7_errand : f_LC mX7_errand := ⟨tw485, tw46⟩
theorem hdX7_errand : f_hd mX7_errand 1 := ⟨⟨by decide +kernel, by decide +kernel, by decide +kernel⟩, by decide⟩
theorem tw482 : Cond.methodLink RL 36 yX7_errand ∈ tb := tb_in (List.mem_of_getElem? (i := 482) (by decide +kernel)) rfl
theorem tw483 : Cond.instanceMethod yX7_errand ∈ tb := tb_in (List.mem_of_getElem? (i := 483) (by decide +kernel)) rfl
theorem tw484 : Cond.selects yX7_errand.cls yX7_errand yX7_errand ∈ tb := tb_in (List.mem_of_getElem? (i := 484) (by decide +kernel)) rfl
theorem mlL_36 : f_LV RL 36 mX7_errand 1 := ⟨lcX7_errand, tw483, tw484, Or.inl tw482, hdX7_errand⟩
abbrev mX7_word : f_Y := (yX7_word, cX7_word, 3, (some .int))
theorem tw489 : Cond.code yX7_word cX7_word 3 (some .int) ∈ tb := tb_in (List.mem_of_getElem? (i := 489) (by decide +kernel)) rfl
theorem lcX7_word : f_LC mX7_word := ⟨tw489, tw46⟩
theorem hdX7_word : f_hd mX7_word 1 := ⟨⟨by decide +kernel, by decide +kernel, by decide +kernel⟩, by decide⟩
theorem tw486 : Cond.methodLink RL 40 yX7_word ∈ tb := tb_in (List.mem_of_getElem? (i := 486) (by decide +kernel)) rfl
theorem tw487 : Cond.instanceMethod yX7_word ∈ tb := tb_in (List.mem_of_getElem? (i := 487) (by decide +kernel)) rfl
theorem tw488 : Cond.selects yX7_word.cls yX7_word yX7_word ∈ tb := tb_in (List.mem_of_getElem? (i := 488) (by decide +kernel)) rfl
theorem mlL_40 : f_LV RL 40 mX7_word 1 := ⟨lcX7_word, tw487, tw488, Or.inl tw486, hdX7_word⟩
abbrev mX7_unlike : f_Y := (yX7_unlike, cX7_unlike, 3, (some .int))
theorem tw493 : Cond.code yX7_unlike cX7_unlike 3 (some .int) ∈ tb := tb_in (List.mem_of_getElem? (i := 493) (by decide +kernel)) rfl
theorem lcX7_unlike : f_LC mX7_unlike := ⟨tw493, tw46⟩
theorem hdX7_unlike : f_hd mX7_unlike 2 := ⟨⟨by decide +kernel, by decide +kernel, by decide +kernel⟩, by decide⟩
theorem tw490 : Cond.methodLink RL 44 yX7_unlike ∈ tb := tb_in (List.mem_of_getElem? (i := 490) (by decide +kernel)) rfl
theorem tw491 : Cond.instanceMethod yX7_unlike ∈ tb := tb_in (List.mem_of_getElem? (i := 491) (by decide +kernel)) rfl
theorem tw492 : Cond.selects yX7_unlike.cls yX7_unlike yX7_unlike ∈ tb := tb_in (List.mem_of_getElem? (i := 492) (by decide +kernel)) rfl
theorem mlL_44 : f_LV RL 44 mX7_unlike 2 := ⟨lcX7_unlike, tw491, tw492, Or.inl tw490, hdX7_unlike⟩
abbrev mX7_marksApart : f_Y := (yX7_marksApart, cX7_marksApart, 2, (some .int))
theorem tw496 : Cond.code yX7_marksApart cX7_marksApart 2 (some .int) ∈ tb := tb_in (List.mem_of_getElem? (i := 496) (by decide +kernel)) rfl
theorem lcX7_marksApart : f_LC mX7_marksApart := ⟨tw496, tw46⟩
theorem hdX7_marksApart : f_hd mX7_marksApart 2 := ⟨⟨by decide +kernel, by decide +kernel, by decide +kernel⟩, by decide⟩
theorem tw494 : Cond.methodLink RX7 153 yX7_marksApart ∈ tb := tb_in (List.mem_of_getElem? (i := 494) (by decide +kernel)) rfl
theorem tw495 : Cond.static yX7_marksApart ∈ tb := tb_in (List.mem_of_getElem? (i := 495) (by decide +kernel)) rfl
theorem mlX7_153 : f_LS RX7 153 mX7_marksApart 2 := ⟨lcX7_marksApart, tw495, Or.inl tw494, hdX7_marksApart⟩
abbrev mJ6_bitCount_0f7a4 : f_Y := (yJ6_bitCount_0f7a4, cJ6_bitCount_0f7a4, 1, (some .int))
theorem tw499 : Cond.code yJ6_bitCount_0f7a4 cJ6_bitCount_0f7a4 1 (some .int) ∈ tb := tb_in (List.mem_of_getElem? (i := 499) (by decide +kernel)) rfl
theorem tw61 : Cond.initialized RJ6 ∈ tb := tb_in (List.mem_of_getElem? (i := 61) (by decide +kernel)) rfl
theorem lcJ6_bitCount_0f7a4 : f_LC mJ6_bitCount_0f7a4 := ⟨tw499, tw61⟩
theorem hdJ6_bitCount_0f7a4 : f_hd mJ6_bitCount_0f7a4 1 := ⟨⟨by decide +kernel, by decide +kernel, by decide +kernel⟩, by decide⟩
theorem tw497 : Cond.methodLink RX7 237 yJ6_bitCount_0f7a4 ∈ tb := tb_in (List.mem_of_getElem? (i := 497) (by decide +kernel)) rfl
theorem tw498 : Cond.static yJ6_bitCount_0f7a4 ∈ tb := tb_in (List.mem_of_getElem? (i := 498) (by decide +kernel)) rfl
theorem mlX7_237 : f_LS RX7 237 mJ6_bitCount_0f7a4 1 := ⟨lcJ6_bitCount_0f7a4, tw498, Or.inl tw497, hdJ6_bitCount_0f7a4⟩
abbrev mX7_does : f_Y := (yX7_does, cX7_does, 3, (some .int))
theorem tw506 : Cond.code yX7_does cX7_does 3 (some .int) ∈ tb := tb_in (List.mem_of_getElem? (i := 506) (by decide +kernel)) rfl
theorem lcX7_does : f_LC mX7_does := ⟨tw506, tw46⟩
theorem hdX7_does : f_hd mX7_does 2 := ⟨⟨by decide +kernel, by decide +kernel, by decide +kernel⟩, by decide⟩
theorem tw503 : Cond.methodLink RL 48 yX7_does ∈ tb := tb_in (List.mem_of_getElem? (i := 503) (by decide +kernel)) rfl
theorem tw504 : Cond.instanceMethod yX7_does ∈ tb := tb_in (List.mem_of_getElem? (i := 504) (by decide +kernel)) rfl
theorem tw505 : Cond.selects yX7_does.cls yX7_does yX7_does ∈ tb := tb_in (List.mem_of_getElem? (i := 505) (by decide +kernel)) rfl
theorem mlL_48 : f_LV RL 48 mX7_does 2 := ⟨lcX7_does, tw504, tw505, Or.inl tw503, hdX7_does⟩
theorem tw507 : Cond.methodLink RX7 157 yX7_isSort ∈ tb := tb_in (List.mem_of_getElem? (i := 507) (by decide +kernel)) rfl
theorem mlX7_157 : f_LS RX7 157 mX7_isSort 1 := ⟨lcX7_isSort, tw381, Or.inl tw507, hdX7_isSort⟩
abbrev mX7_learnerNow : f_Y := (yX7_learnerNow, cX7_learnerNow, 2, (some (.object "AsWithTheLast$Learner")))
theorem tw511 : Cond.code yX7_learnerNow cX7_learnerNow 2 (some (.object "AsWithTheLast$Learner")) ∈ tb := tb_in (List.mem_of_getElem? (i := 511) (by decide +kernel)) rfl
theorem lcX7_learnerNow : f_LC mX7_learnerNow := ⟨tw511, tw46⟩
theorem hdX7_learnerNow : f_hd mX7_learnerNow 1 := ⟨⟨by decide +kernel, by decide +kernel, by decide +kernel⟩, by decide⟩
theorem tw508 : Cond.methodLink RX7 160 yX7_learnerNow ∈ tb := tb_in (List.mem_of_getElem? (i := 508) (by decide +kernel)) rfl
theorem tw510 : Cond.instanceMethod yX7_learnerNow ∈ tb := tb_in (List.mem_of_getElem? (i := 510) (by decide +kernel)) rfl
theorem tw5 : Cond.selects yX7_learnerNow.cls yX7_learnerNow yX7_learnerNow ∈ tb := tb_in (List.mem_of_getElem? (i := 5) (by decide +kernel)) rfl
theorem mlX7_160 : f_LV RX7 160 mX7_learnerNow 1 := ⟨lcX7_learnerNow, tw510, tw5, Or.inl tw508, hdX7_learnerNow⟩
abbrev mX0_begin : f_Y := (yX0_begin, cX0_begin, 3, none)
theorem tw515 : Cond.code yX0_begin cX0_begin 3 none ∈ tb := tb_in (List.mem_of_getElem? (i := 515) (by decide +kernel)) rfl
theorem tw53 : Cond.initialized RX0 ∈ tb := tb_in (List.mem_of_getElem? (i := 53) (by decide +kernel)) rfl
theorem lcX0_begin : f_LC mX0_begin := ⟨tw515, tw53⟩
theorem hdX0_begin : f_hd mX0_begin 2 := ⟨⟨by decide +kernel, by decide +kernel, by decide +kernel⟩, by decide⟩
theorem tw512 : Cond.methodLink RX7 277 yX0_begin ∈ tb := tb_in (List.mem_of_getElem? (i := 512) (by decide +kernel)) rfl
theorem tw513 : Cond.instanceMethod yX0_begin ∈ tb := tb_in (List.mem_of_getElem? (i := 513) (by decide +kernel)) rfl
theorem tw514 : Cond.selects yX0_begin.cls yX0_begin yX0_begin ∈ tb := tb_in (List.mem_of_getElem? (i := 514) (by decide +kernel)) rfl
theorem mlX7_277 : f_LV RX7 277 mX0_begin 2 := ⟨lcX0_begin, tw513, tw514, Or.inl tw512, hdX0_begin⟩
theorem tw516 : Cond.methodLink RX0 47 yX3_fill ∈ tb := tb_in (List.mem_of_getElem? (i := 516) (by decide +kernel)) rfl
theorem mlX0_47 : f_LV RX0 47 mX3_fill 2 := ⟨lcX3_fill, tw168, tw169, Or.inl tw516, hdX3_fill⟩
abbrev mX0_hearAll : f_Y := (yX0_hearAll, cX0_hearAll, 3, none)
theorem tw520 : Cond.code yX0_hearAll cX0_hearAll 3 none ∈ tb := tb_in (List.mem_of_getElem? (i := 520) (by decide +kernel)) rfl
theorem lcX0_hearAll : f_LC mX0_hearAll := ⟨tw520, tw53⟩
theorem hdX0_hearAll : f_hd mX0_hearAll 1 := ⟨⟨by decide +kernel, by decide +kernel, by decide +kernel⟩, by decide⟩
theorem tw517 : Cond.methodLink RX7 280 yX0_hearAll ∈ tb := tb_in (List.mem_of_getElem? (i := 517) (by decide +kernel)) rfl
theorem tw518 : Cond.instanceMethod yX0_hearAll ∈ tb := tb_in (List.mem_of_getElem? (i := 518) (by decide +kernel)) rfl
theorem tw519 : Cond.selects yX0_hearAll.cls yX0_hearAll yX0_hearAll ∈ tb := tb_in (List.mem_of_getElem? (i := 519) (by decide +kernel)) rfl
theorem mlX7_280 : f_LV RX7 280 mX0_hearAll 1 := ⟨lcX0_hearAll, tw518, tw519, Or.inl tw517, hdX0_hearAll⟩
theorem tw521 : Cond.methodLink RX0 54 yX3_size ∈ tb := tb_in (List.mem_of_getElem? (i := 521) (by decide +kernel)) rfl
theorem mlX0_54 : f_LV RX0 54 mX3_size 0 := ⟨lcX3_size, tw338, tw339, Or.inl tw521, hdX3_size⟩
theorem tw522 : Cond.methodLink RX0 58 yX3_at ∈ tb := tb_in (List.mem_of_getElem? (i := 522) (by decide +kernel)) rfl
theorem mlX0_58 : f_LV RX0 58 mX3_at 1 := ⟨lcX3_at, tw346, tw347, Or.inl tw522, hdX3_at⟩
abbrev mX0_hear : f_Y := (yX0_hear, cX0_hear, 3, none)
theorem tw526 : Cond.code yX0_hear cX0_hear 3 none ∈ tb := tb_in (List.mem_of_getElem? (i := 526) (by decide +kernel)) rfl
theorem lcX0_hear : f_LC mX0_hear := ⟨tw526, tw53⟩
theorem hdX0_hear : f_hd mX0_hear 2 := ⟨⟨by decide +kernel, by decide +kernel, by decide +kernel⟩, by decide⟩
theorem tw523 : Cond.methodLink RX0 62 yX0_hear ∈ tb := tb_in (List.mem_of_getElem? (i := 523) (by decide +kernel)) rfl
theorem tw524 : Cond.instanceMethod yX0_hear ∈ tb := tb_in (List.mem_of_getElem? (i := 524) (by decide +kernel)) rfl
theorem tw525 : Cond.selects yX0_hear.cls yX0_hear yX0_hear ∈ tb := tb_in (List.mem_of_getElem? (i := 525) (by decide +kernel)) rfl
theorem mlX0_62 : f_LV RX0 62 mX0_hear 2 := ⟨lcX0_hear, tw524, tw525, Or.inl tw523, hdX0_hear⟩
abbrev mX3_put : f_Y := (yX3_put, cX3_put, 3, none)
theorem tw530 : Cond.code yX3_put cX3_put 3 none ∈ tb := tb_in (List.mem_of_getElem? (i := 530) (by decide +kernel)) rfl
theorem lcX3_put : f_LC mX3_put := ⟨tw530, tw47⟩
theorem hdX3_put : f_hd mX3_put 2 := ⟨⟨by decide +kernel, by decide +kernel, by decide +kernel⟩, by decide⟩
theorem tw527 : Cond.methodLink RX0 51 yX3_put ∈ tb := tb_in (List.mem_of_getElem? (i := 527) (by decide +kernel)) rfl
theorem tw528 : Cond.instanceMethod yX3_put ∈ tb := tb_in (List.mem_of_getElem? (i := 528) (by decide +kernel)) rfl
theorem tw529 : Cond.selects yX3_put.cls yX3_put yX3_put ∈ tb := tb_in (List.mem_of_getElem? (i := 529) (by decide +kernel)) rfl
theorem mlX0_51 : f_LV RX0 51 mX3_put 2 := ⟨lcX3_put, tw528, tw529, Or.inl tw527, hdX3_put⟩
abbrev mX0_willDo : f_Y := (yX0_willDo, cX0_willDo, 2, (some .int))
theorem tw534 : Cond.code yX0_willDo cX0_willDo 2 (some .int) ∈ tb := tb_in (List.mem_of_getElem? (i := 534) (by decide +kernel)) rfl
theorem lcX0_willDo : f_LC mX0_willDo := ⟨tw534, tw53⟩
theorem hdX0_willDo : f_hd mX0_willDo 1 := ⟨⟨by decide +kernel, by decide +kernel, by decide +kernel⟩, by decide⟩
theorem tw531 : Cond.methodLink RX7 164 yX0_willDo ∈ tb := tb_in (List.mem_of_getElem? (i := 531) (by decide +kernel)) rfl
theorem tw532 : Cond.instanceMethod yX0_willDo ∈ tb := tb_in (List.mem_of_getElem? (i := 532) (by decide +kernel)) rfl
theorem tw533 : Cond.selects yX0_willDo.cls yX0_willDo yX0_willDo ∈ tb := tb_in (List.mem_of_getElem? (i := 533) (by decide +kernel)) rfl
theorem mlX7_164 : f_LV RX7 164 mX0_willDo 1 := ⟨lcX0_willDo, tw532, tw533, Or.inl tw531, hdX0_willDo⟩
abbrev mX0_likestDoing : f_Y := (yX0_likestDoing, cX0_likestDoing, 9, (some .int))
theorem tw538 : Cond.code yX0_likestDoing cX0_likestDoing 9 (some .int) ∈ tb := tb_in (List.mem_of_getElem? (i := 538) (by decide +kernel)) rfl
theorem lcX0_likestDoing : f_LC mX0_likestDoing := ⟨tw538, tw53⟩
theorem hdX0_likestDoing : f_hd mX0_likestDoing 1 := ⟨⟨by decide +kernel, by decide +kernel, by decide +kernel⟩, by decide⟩
theorem tw535 : Cond.methodLink RX0 65 yX0_likestDoing ∈ tb := tb_in (List.mem_of_getElem? (i := 535) (by decide +kernel)) rfl
theorem tw537 : Cond.instanceMethod yX0_likestDoing ∈ tb := tb_in (List.mem_of_getElem? (i := 537) (by decide +kernel)) rfl
theorem tw6 : Cond.selects yX0_likestDoing.cls yX0_likestDoing yX0_likestDoing ∈ tb := tb_in (List.mem_of_getElem? (i := 6) (by decide +kernel)) rfl
theorem mlX0_65 : f_LV RX0 65 mX0_likestDoing 1 := ⟨lcX0_likestDoing, tw537, tw6, Or.inl tw535, hdX0_likestDoing⟩
theorem tw540 : Cond.methodLink RX0 78 yX1_kinds ∈ tb := tb_in (List.mem_of_getElem? (i := 540) (by decide +kernel)) rfl
theorem mlX0_78 : f_LV RX0 78 mX1_kinds 0 := ⟨lcX1_kinds, tw464, tw465, Or.inl tw540, hdX1_kinds⟩
abbrev mX0_keeps : f_Y := (yX0_keeps, cX0_keeps, 2, (some .boolean))
theorem tw544 : Cond.code yX0_keeps cX0_keeps 2 (some .boolean) ∈ tb := tb_in (List.mem_of_getElem? (i := 544) (by decide +kernel)) rfl
theorem lcX0_keeps : f_LC mX0_keeps := ⟨tw544, tw53⟩
theorem hdX0_keeps : f_hd mX0_keeps 1 := ⟨⟨by decide +kernel, by decide +kernel, by decide +kernel⟩, by decide⟩
theorem tw541 : Cond.methodLink RX0 68 yX0_keeps ∈ tb := tb_in (List.mem_of_getElem? (i := 541) (by decide +kernel)) rfl
theorem tw543 : Cond.instanceMethod yX0_keeps ∈ tb := tb_in (List.mem_of_getElem? (i := 543) (by decide +kernel)) rfl
theorem tw7 : Cond.selects yX0_keeps.cls yX0_keeps yX0_keeps ∈ tb := tb_in (List.mem_of_getElem? (i := 7) (by decide +kernel)) rfl
theorem mlX0_68 : f_LV RX0 68 mX0_keeps 1 := ⟨lcX0_keeps, tw543, tw7, Or.inl tw541, hdX0_keeps⟩
theorem tw545 : Cond.methodLinkNest RX0 81 yX7_marksApart "AsWithTheLast" ∈ nw := nw_in (List.mem_of_getElem? (i := 545) (by decide +kernel)) rfl
theorem mlX0_81 : f_LS RX0 81 mX7_marksApart 2 := ⟨lcX7_marksApart, tw495, Or.inr ⟨_, tw545⟩, hdX7_marksApart⟩
abbrev mX7_hand : f_Y := (yX7_hand, cX7_hand, 3, (some .int))
theorem tw549 : Cond.code yX7_hand cX7_hand 3 (some .int) ∈ tb := tb_in (List.mem_of_getElem? (i := 549) (by decide +kernel)) rfl
theorem lcX7_hand : f_LC mX7_hand := ⟨tw549, tw46⟩
theorem hdX7_hand : f_hd mX7_hand 1 := ⟨⟨by decide +kernel, by decide +kernel, by decide +kernel⟩, by decide⟩
theorem tw546 : Cond.methodLink RL 52 yX7_hand ∈ tb := tb_in (List.mem_of_getElem? (i := 546) (by decide +kernel)) rfl
theorem tw547 : Cond.instanceMethod yX7_hand ∈ tb := tb_in (List.mem_of_getElem? (i := 547) (by decide +kernel)) rfl
theorem tw548 : Cond.selects yX7_hand.cls yX7_hand yX7_hand ∈ tb := tb_in (List.mem_of_getElem? (i := 548) (by decide +kernel)) rfl
theorem mlL_52 : f_LV RL 52 mX7_hand 1 := ⟨lcX7_hand, tw547, tw548, Or.inl tw546, hdX7_hand⟩
abbrev mX6_add : f_Y := (yX6_add, cX6_add, 3, none)
theorem tw553 : Cond.code yX6_add cX6_add 3 none ∈ tb := tb_in (List.mem_of_getElem? (i := 553) (by decide +kernel)) rfl
theorem lcX6_add : f_LC mX6_add := ⟨tw553, tw52⟩
theorem hdX6_add : f_hd mX6_add 1 := ⟨⟨by decide +kernel, by decide +kernel, by decide +kernel⟩, by decide⟩
theorem tw550 : Cond.methodLink RX7 171 yX6_add ∈ tb := tb_in (List.mem_of_getElem? (i := 550) (by decide +kernel)) rfl
theorem tw551 : Cond.instanceMethod yX6_add ∈ tb := tb_in (List.mem_of_getElem? (i := 551) (by decide +kernel)) rfl
theorem tw552 : Cond.selects yX6_add.cls yX6_add yX6_add ∈ tb := tb_in (List.mem_of_getElem? (i := 552) (by decide +kernel)) rfl
theorem mlX7_171 : f_LV RX7 171 mX6_add 1 := ⟨lcX6_add, tw551, tw552, Or.inl tw550, hdX6_add⟩
abbrev mX6_isFull : f_Y := (yX6_isFull, cX6_isFull, 1, (some .boolean))
theorem tw557 : Cond.code yX6_isFull cX6_isFull 1 (some .boolean) ∈ tb := tb_in (List.mem_of_getElem? (i := 557) (by decide +kernel)) rfl
theorem lcX6_isFull : f_LC mX6_isFull := ⟨tw557, tw52⟩
theorem hdX6_isFull : f_hd mX6_isFull 0 := ⟨⟨by decide +kernel, by decide +kernel, by decide +kernel⟩, by decide⟩
theorem tw554 : Cond.methodLink RX6 26 yX6_isFull ∈ tb := tb_in (List.mem_of_getElem? (i := 554) (by decide +kernel)) rfl
theorem tw555 : Cond.instanceMethod yX6_isFull ∈ tb := tb_in (List.mem_of_getElem? (i := 555) (by decide +kernel)) rfl
theorem tw556 : Cond.selects yX6_isFull.cls yX6_isFull yX6_isFull ∈ tb := tb_in (List.mem_of_getElem? (i := 556) (by decide +kernel)) rfl
theorem mlX6_26 : f_LV RX6 26 mX6_isFull 0 := ⟨lcX6_isFull, tw555, tw556, Or.inl tw554, hdX6_isFull⟩
abbrev mX6_dropOldest : f_Y := (yX6_dropOldest, cX6_dropOldest, 3, none)
theorem tw561 : Cond.code yX6_dropOldest cX6_dropOldest 3 none ∈ tb := tb_in (List.mem_of_getElem? (i := 561) (by decide +kernel)) rfl
theorem lcX6_dropOldest : f_LC mX6_dropOldest := ⟨tw561, tw52⟩
theorem hdX6_dropOldest : f_hd mX6_dropOldest 0 := ⟨⟨by decide +kernel, by decide +kernel, by decide +kernel⟩, by decide⟩
theorem tw558 : Cond.methodLink RX6 30 yX6_dropOldest ∈ tb := tb_in (List.mem_of_getElem? (i := 558) (by decide +kernel)) rfl
theorem tw560 : Cond.instanceMethod yX6_dropOldest ∈ tb := tb_in (List.mem_of_getElem? (i := 560) (by decide +kernel)) rfl
theorem tw8 : Cond.selects yX6_dropOldest.cls yX6_dropOldest yX6_dropOldest ∈ tb := tb_in (List.mem_of_getElem? (i := 8) (by decide +kernel)) rfl
theorem mlX6_30 : f_LV RX6 30 mX6_dropOldest 0 := ⟨lcX6_dropOldest, tw560, tw8, Or.inl tw558, hdX6_dropOldest⟩
abbrev mX6_placeAt : f_Y := (yX6_placeAt, cX6_placeAt, 2, (some (.object "AsWithTheLast$Memory")))
theorem tw565 : Cond.code yX6_placeAt cX6_placeAt 2 (some (.object "AsWithTheLast$Memory")) ∈ tb := tb_in (List.mem_of_getElem? (i := 565) (by decide +kernel)) rfl
theorem lcX6_placeAt : f_LC mX6_placeAt := ⟨tw565, tw52⟩
theorem hdX6_placeAt : f_hd mX6_placeAt 1 := ⟨⟨by decide +kernel, by decide +kernel, by decide +kernel⟩, by decide⟩
theorem tw562 : Cond.methodLink RX6 33 yX6_placeAt ∈ tb := tb_in (List.mem_of_getElem? (i := 562) (by decide +kernel)) rfl
theorem tw564 : Cond.instanceMethod yX6_placeAt ∈ tb := tb_in (List.mem_of_getElem? (i := 564) (by decide +kernel)) rfl
theorem tw9 : Cond.selects yX6_placeAt.cls yX6_placeAt yX6_placeAt ∈ tb := tb_in (List.mem_of_getElem? (i := 9) (by decide +kernel)) rfl
theorem mlX6_33 : f_LV RX6 33 mX6_placeAt 1 := ⟨lcX6_placeAt, tw564, tw9, Or.inl tw562, hdX6_placeAt⟩
abbrev mX2_copyFrom : f_Y := (yX2_copyFrom, cX2_copyFrom, 2, none)
theorem tw569 : Cond.code yX2_copyFrom cX2_copyFrom 2 none ∈ tb := tb_in (List.mem_of_getElem? (i := 569) (by decide +kernel)) rfl
theorem lcX2_copyFrom : f_LC mX2_copyFrom := ⟨tw569, tw51⟩
theorem hdX2_copyFrom : f_hd mX2_copyFrom 1 := ⟨⟨by decide +kernel, by decide +kernel, by decide +kernel⟩, by decide⟩
theorem tw566 : Cond.methodLink RX6 37 yX2_copyFrom ∈ tb := tb_in (List.mem_of_getElem? (i := 566) (by decide +kernel)) rfl
theorem tw567 : Cond.instanceMethod yX2_copyFrom ∈ tb := tb_in (List.mem_of_getElem? (i := 567) (by decide +kernel)) rfl
theorem tw568 : Cond.selects yX2_copyFrom.cls yX2_copyFrom yX2_copyFrom ∈ tb := tb_in (List.mem_of_getElem? (i := 568) (by decide +kernel)) rfl
theorem mlX6_37 : f_LV RX6 37 mX2_copyFrom 1 := ⟨lcX2_copyFrom, tw567, tw568, Or.inl tw566, hdX2_copyFrom⟩
theorem tw570 : Cond.methodLink RX2 74 yX3_copyFrom ∈ tb := tb_in (List.mem_of_getElem? (i := 570) (by decide +kernel)) rfl
theorem mlX2_74 : f_LV RX2 74 mX3_copyFrom 1 := ⟨lcX3_copyFrom, tw397, tw398, Or.inl tw570, hdX3_copyFrom⟩
abbrev mX2_addDay : f_Y := (yX2_addDay, cX2_addDay, 4, none)
theorem tw574 : Cond.code yX2_addDay cX2_addDay 4 none ∈ tb := tb_in (List.mem_of_getElem? (i := 574) (by decide +kernel)) rfl
theorem lcX2_addDay : f_LC mX2_addDay := ⟨tw574, tw51⟩
theorem hdX2_addDay : f_hd mX2_addDay 3 := ⟨⟨by decide +kernel, by decide +kernel, by decide +kernel⟩, by decide⟩
theorem tw571 : Cond.methodLink RX7 174 yX2_addDay ∈ tb := tb_in (List.mem_of_getElem? (i := 571) (by decide +kernel)) rfl
theorem tw572 : Cond.instanceMethod yX2_addDay ∈ tb := tb_in (List.mem_of_getElem? (i := 572) (by decide +kernel)) rfl
theorem tw573 : Cond.selects yX2_addDay.cls yX2_addDay yX2_addDay ∈ tb := tb_in (List.mem_of_getElem? (i := 573) (by decide +kernel)) rfl
theorem mlX7_174 : f_LV RX7 174 mX2_addDay 3 := ⟨lcX2_addDay, tw572, tw573, Or.inl tw571, hdX2_addDay⟩
theorem tw575 : Cond.methodLink RX2 54 yX3_at ∈ tb := tb_in (List.mem_of_getElem? (i := 575) (by decide +kernel)) rfl
theorem mlX2_54 : f_LV RX2 54 mX3_at 1 := ⟨lcX3_at, tw346, tw347, Or.inl tw575, hdX3_at⟩
theorem tw576 : Cond.methodLink RX2 58 yX3_put ∈ tb := tb_in (List.mem_of_getElem? (i := 576) (by decide +kernel)) rfl
theorem mlX2_58 : f_LV RX2 58 mX3_put 2 := ⟨lcX3_put, tw528, tw529, Or.inl tw576, hdX3_put⟩
abbrev mX1_lost : f_Y := (yX1_lost, cX1_lost, 3, (some .int))
theorem tw580 : Cond.code yX1_lost cX1_lost 3 (some .int) ∈ tb := tb_in (List.mem_of_getElem? (i := 580) (by decide +kernel)) rfl
theorem lcX1_lost : f_LC mX1_lost := ⟨tw580, tw49⟩
theorem hdX1_lost : f_hd mX1_lost 2 := ⟨⟨by decide +kernel, by decide +kernel, by decide +kernel⟩, by decide⟩
theorem tw577 : Cond.methodLink RX2 61 yX1_lost ∈ tb := tb_in (List.mem_of_getElem? (i := 577) (by decide +kernel)) rfl
theorem tw578 : Cond.instanceMethod yX1_lost ∈ tb := tb_in (List.mem_of_getElem? (i := 578) (by decide +kernel)) rfl
theorem tw579 : Cond.selects yX1_lost.cls yX1_lost yX1_lost ∈ tb := tb_in (List.mem_of_getElem? (i := 579) (by decide +kernel)) rfl
theorem mlX2_61 : f_LV RX2 61 mX1_lost 2 := ⟨lcX1_lost, tw578, tw579, Or.inl tw577, hdX1_lost⟩
abbrev mX1_outcome : f_Y := (yX1_outcome, cX1_outcome, 3, (some .int))
theorem tw584 : Cond.code yX1_outcome cX1_outcome 3 (some .int) ∈ tb := tb_in (List.mem_of_getElem? (i := 584) (by decide +kernel)) rfl
theorem lcX1_outcome : f_LC mX1_outcome := ⟨tw584, tw49⟩
theorem hdX1_outcome : f_hd mX1_outcome 2 := ⟨⟨by decide +kernel, by decide +kernel, by decide +kernel⟩, by decide⟩
theorem tw581 : Cond.methodLink RX1 43 yX1_outcome ∈ tb := tb_in (List.mem_of_getElem? (i := 581) (by decide +kernel)) rfl
theorem tw582 : Cond.instanceMethod yX1_outcome ∈ tb := tb_in (List.mem_of_getElem? (i := 582) (by decide +kernel)) rfl
theorem tw583 : Cond.selects yX1_outcome.cls yX1_outcome yX1_outcome ∈ tb := tb_in (List.mem_of_getElem? (i := 583) (by decide +kernel)) rfl
theorem mlX1_43 : f_LV RX1 43 mX1_outcome 2 := ⟨lcX1_outcome, tw582, tw583, Or.inl tw581, hdX1_outcome⟩
theorem tw585 : Cond.methodLink RX1 39 yX3_at ∈ tb := tb_in (List.mem_of_getElem? (i := 585) (by decide +kernel)) rfl
theorem mlX1_39 : f_LV RX1 39 mX3_at 1 := ⟨lcX3_at, tw346, tw347, Or.inl tw585, hdX3_at⟩
theorem tw586 : Cond.methodLink RX2 65 yX1_outcome ∈ tb := tb_in (List.mem_of_getElem? (i := 586) (by decide +kernel)) rfl
theorem mlX2_65 : f_LV RX2 65 mX1_outcome 2 := ⟨lcX1_outcome, tw582, tw583, Or.inl tw586, hdX1_outcome⟩
abbrev mX2_addWord : f_Y := (yX2_addWord, cX2_addWord, 3, none)
theorem tw590 : Cond.code yX2_addWord cX2_addWord 3 none ∈ tb := tb_in (List.mem_of_getElem? (i := 590) (by decide +kernel)) rfl
theorem lcX2_addWord : f_LC mX2_addWord := ⟨tw590, tw51⟩
theorem hdX2_addWord : f_hd mX2_addWord 2 := ⟨⟨by decide +kernel, by decide +kernel, by decide +kernel⟩, by decide⟩
theorem tw587 : Cond.methodLink RX2 71 yX2_addWord ∈ tb := tb_in (List.mem_of_getElem? (i := 587) (by decide +kernel)) rfl
theorem tw588 : Cond.instanceMethod yX2_addWord ∈ tb := tb_in (List.mem_of_getElem? (i := 588) (by decide +kernel)) rfl
theorem tw589 : Cond.selects yX2_addWord.cls yX2_addWord yX2_addWord ∈ tb := tb_in (List.mem_of_getElem? (i := 589) (by decide +kernel)) rfl
theorem mlX2_71 : f_LV RX2 71 mX2_addWord 2 := ⟨lcX2_addWord, tw588, tw589, Or.inl tw587, hdX2_addWord⟩
theorem tw591 : Cond.methodLink RX2 40 yX3_isFull ∈ tb := tb_in (List.mem_of_getElem? (i := 591) (by decide +kernel)) rfl
theorem mlX2_40 : f_LV RX2 40 mX3_isFull 0 := ⟨lcX3_isFull, tw370, tw371, Or.inl tw591, hdX3_isFull⟩
abbrev mX3_dropFirst : f_Y := (yX3_dropFirst, cX3_dropFirst, 2, none)
theorem tw595 : Cond.code yX3_dropFirst cX3_dropFirst 2 none ∈ tb := tb_in (List.mem_of_getElem? (i := 595) (by decide +kernel)) rfl
theorem lcX3_dropFirst : f_LC mX3_dropFirst := ⟨tw595, tw47⟩
theorem hdX3_dropFirst : f_hd mX3_dropFirst 0 := ⟨⟨by decide +kernel, by decide +kernel, by decide +kernel⟩, by decide⟩
theorem tw592 : Cond.methodLink RX2 44 yX3_dropFirst ∈ tb := tb_in (List.mem_of_getElem? (i := 592) (by decide +kernel)) rfl
theorem tw593 : Cond.instanceMethod yX3_dropFirst ∈ tb := tb_in (List.mem_of_getElem? (i := 593) (by decide +kernel)) rfl
theorem tw594 : Cond.selects yX3_dropFirst.cls yX3_dropFirst yX3_dropFirst ∈ tb := tb_in (List.mem_of_getElem? (i := 594) (by decide +kernel)) rfl
theorem mlX2_44 : f_LV RX2 44 mX3_dropFirst 0 := ⟨lcX3_dropFirst, tw593, tw594, Or.inl tw592, hdX3_dropFirst⟩
theorem tw596 : Cond.methodLink RX3 27 yX3_at ∈ tb := tb_in (List.mem_of_getElem? (i := 596) (by decide +kernel)) rfl
theorem mlX3_27 : f_LV RX3 27 mX3_at 1 := ⟨lcX3_at, tw346, tw347, Or.inl tw596, hdX3_at⟩
theorem tw597 : Cond.methodLink RX3 31 yX3_put ∈ tb := tb_in (List.mem_of_getElem? (i := 597) (by decide +kernel)) rfl
theorem mlX3_31 : f_LV RX3 31 mX3_put 2 := ⟨lcX3_put, tw528, tw529, Or.inl tw597, hdX3_put⟩
abbrev mX7_wordOf : f_Y := (yX7_wordOf, cX7_wordOf, 2, (some .int))
theorem tw600 : Cond.code yX7_wordOf cX7_wordOf 2 (some .int) ∈ tb := tb_in (List.mem_of_getElem? (i := 600) (by decide +kernel)) rfl
theorem lcX7_wordOf : f_LC mX7_wordOf := ⟨tw600, tw46⟩
theorem hdX7_wordOf : f_hd mX7_wordOf 2 := ⟨⟨by decide +kernel, by decide +kernel, by decide +kernel⟩, by decide⟩
theorem tw598 : Cond.methodLinkNest RX2 47 yX7_wordOf "AsWithTheLast" ∈ nw := nw_in (List.mem_of_getElem? (i := 598) (by decide +kernel)) rfl
theorem tw599 : Cond.static yX7_wordOf ∈ tb := tb_in (List.mem_of_getElem? (i := 599) (by decide +kernel)) rfl
theorem mlX2_47 : f_LS RX2 47 mX7_wordOf 2 := ⟨lcX7_wordOf, tw599, Or.inr ⟨_, tw598⟩, hdX7_wordOf⟩
theorem tw601 : Cond.methodLink RX2 51 yX3_add ∈ tb := tb_in (List.mem_of_getElem? (i := 601) (by decide +kernel)) rfl
theorem mlX2_51 : f_LV RX2 51 mX3_add 1 := ⟨lcX3_add, tw172, tw173, Or.inl tw601, hdX3_add⟩
theorem tw602 : Cond.methodLink RX7 178 yX1_outcome ∈ tb := tb_in (List.mem_of_getElem? (i := 602) (by decide +kernel)) rfl
theorem mlX7_178 : f_LV RX7 178 mX1_outcome 2 := ⟨lcX1_outcome, tw582, tw583, Or.inl tw602, hdX1_outcome⟩
abbrev mX7_teach : f_Y := (yX7_teach, cX7_teach, 3, (some .int))
theorem tw606 : Cond.code yX7_teach cX7_teach 3 (some .int) ∈ tb := tb_in (List.mem_of_getElem? (i := 606) (by decide +kernel)) rfl
theorem lcX7_teach : f_LC mX7_teach := ⟨tw606, tw46⟩
theorem hdX7_teach : f_hd mX7_teach 2 := ⟨⟨by decide +kernel, by decide +kernel, by decide +kernel⟩, by decide⟩
theorem tw603 : Cond.methodLink RL 56 yX7_teach ∈ tb := tb_in (List.mem_of_getElem? (i := 603) (by decide +kernel)) rfl
theorem tw604 : Cond.instanceMethod yX7_teach ∈ tb := tb_in (List.mem_of_getElem? (i := 604) (by decide +kernel)) rfl
theorem tw605 : Cond.selects yX7_teach.cls yX7_teach yX7_teach ∈ tb := tb_in (List.mem_of_getElem? (i := 605) (by decide +kernel)) rfl
theorem mlL_56 : f_LV RL 56 mX7_teach 2 := ⟨lcX7_teach, tw604, tw605, Or.inl tw603, hdX7_teach⟩
theorem tw607 : Cond.methodLink RX7 181 yX7_isDoing ∈ tb := tb_in (List.mem_of_getElem? (i := 607) (by decide +kernel)) rfl
theorem mlX7_181 : f_LS RX7 181 mX7_isDoing 1 := ⟨lcX7_isDoing, tw377, Or.inl tw607, hdX7_isDoing⟩
theorem tw608 : Cond.methodLink RX7 184 yX2_addWord ∈ tb := tb_in (List.mem_of_getElem? (i := 608) (by decide +kernel)) rfl
theorem mlX7_184 : f_LV RX7 184 mX2_addWord 2 := ⟨lcX2_addWord, tw588, tw589, Or.inl tw608, hdX2_addWord⟩
abbrev mX7_undo : f_Y := (yX7_undo, cX7_undo, 1, (some .int))
theorem tw612 : Cond.code yX7_undo cX7_undo 1 (some .int) ∈ tb := tb_in (List.mem_of_getElem? (i := 612) (by decide +kernel)) rfl
theorem lcX7_undo : f_LC mX7_undo := ⟨tw612, tw46⟩
theorem hdX7_undo : f_hd mX7_undo 0 := ⟨⟨by decide +kernel, by decide +kernel, by decide +kernel⟩, by decide⟩
theorem tw609 : Cond.methodLink RL 60 yX7_undo ∈ tb := tb_in (List.mem_of_getElem? (i := 609) (by decide +kernel)) rfl
theorem tw610 : Cond.instanceMethod yX7_undo ∈ tb := tb_in (List.mem_of_getElem? (i := 610) (by decide +kernel)) rfl
theorem tw611 : Cond.selects yX7_undo.cls yX7_undo yX7_undo ∈ tb := tb_in (List.mem_of_getElem? (i := 611) (by decide +kernel)) rfl
theorem mlL_60 : f_LV RL 60 mX7_undo 0 := ⟨lcX7_undo, tw610, tw611, Or.inl tw609, hdX7_undo⟩
abbrev mX6_size : f_Y := (yX6_size, cX6_size, 1, (some .int))
theorem tw616 : Cond.code yX6_size cX6_size 1 (some .int) ∈ tb := tb_in (List.mem_of_getElem? (i := 616) (by decide +kernel)) rfl
theorem lcX6_size : f_LC mX6_size := ⟨tw616, tw52⟩
theorem hdX6_size : f_hd mX6_size 0 := ⟨⟨by decide +kernel, by decide +kernel, by decide +kernel⟩, by decide⟩
theorem tw613 : Cond.methodLink RX7 188 yX6_size ∈ tb := tb_in (List.mem_of_getElem? (i := 613) (by decide +kernel)) rfl
theorem tw614 : Cond.instanceMethod yX6_size ∈ tb := tb_in (List.mem_of_getElem? (i := 614) (by decide +kernel)) rfl
theorem tw615 : Cond.selects yX6_size.cls yX6_size yX6_size ∈ tb := tb_in (List.mem_of_getElem? (i := 615) (by decide +kernel)) rfl
theorem mlX7_188 : f_LV RX7 188 mX6_size 0 := ⟨lcX6_size, tw614, tw615, Or.inl tw613, hdX6_size⟩
abbrev mX6_takeLast : f_Y := (yX6_takeLast, cX6_takeLast, 3, none)
theorem tw620 : Cond.code yX6_takeLast cX6_takeLast 3 none ∈ tb := tb_in (List.mem_of_getElem? (i := 620) (by decide +kernel)) rfl
theorem lcX6_takeLast : f_LC mX6_takeLast := ⟨tw620, tw52⟩
theorem hdX6_takeLast : f_hd mX6_takeLast 1 := ⟨⟨by decide +kernel, by decide +kernel, by decide +kernel⟩, by decide⟩
theorem tw617 : Cond.methodLink RX7 189 yX6_takeLast ∈ tb := tb_in (List.mem_of_getElem? (i := 617) (by decide +kernel)) rfl
theorem tw618 : Cond.instanceMethod yX6_takeLast ∈ tb := tb_in (List.mem_of_getElem? (i := 618) (by decide +kernel)) rfl
theorem tw619 : Cond.selects yX6_takeLast.cls yX6_takeLast yX6_takeLast ∈ tb := tb_in (List.mem_of_getElem? (i := 619) (by decide +kernel)) rfl
theorem mlX7_189 : f_LV RX7 189 mX6_takeLast 1 := ⟨lcX6_takeLast, tw618, tw619, Or.inl tw617, hdX6_takeLast⟩
abbrev mX7_tell : f_Y := (yX7_tell, cX7_tell, 2, (some .int))
theorem tw624 : Cond.code yX7_tell cX7_tell 2 (some .int) ∈ tb := tb_in (List.mem_of_getElem? (i := 624) (by decide +kernel)) rfl
theorem lcX7_tell : f_LC mX7_tell := ⟨tw624, tw46⟩
theorem hdX7_tell : f_hd mX7_tell 1 := ⟨⟨by decide +kernel, by decide +kernel, by decide +kernel⟩, by decide⟩
theorem tw621 : Cond.methodLink RL 64 yX7_tell ∈ tb := tb_in (List.mem_of_getElem? (i := 621) (by decide +kernel)) rfl
theorem tw622 : Cond.instanceMethod yX7_tell ∈ tb := tb_in (List.mem_of_getElem? (i := 622) (by decide +kernel)) rfl
theorem tw623 : Cond.selects yX7_tell.cls yX7_tell yX7_tell ∈ tb := tb_in (List.mem_of_getElem? (i := 623) (by decide +kernel)) rfl
theorem mlL_64 : f_LV RL 64 mX7_tell 1 := ⟨lcX7_tell, tw622, tw623, Or.inl tw621, hdX7_tell⟩
abbrev mX7_noRow : f_Y := (yX7_noRow, cX7_noRow, 2, (some .int))
theorem tw628 : Cond.code yX7_noRow cX7_noRow 2 (some .int) ∈ tb := tb_in (List.mem_of_getElem? (i := 628) (by decide +kernel)) rfl
theorem lcX7_noRow : f_LC mX7_noRow := ⟨tw628, tw46⟩
theorem hdX7_noRow : f_hd mX7_noRow 0 := ⟨⟨by decide +kernel, by decide +kernel, by decide +kernel⟩, by decide⟩
theorem tw625 : Cond.methodLink RL 68 yX7_noRow ∈ tb := tb_in (List.mem_of_getElem? (i := 625) (by decide +kernel)) rfl
theorem tw626 : Cond.instanceMethod yX7_noRow ∈ tb := tb_in (List.mem_of_getElem? (i := 626) (by decide +kernel)) rfl
theorem tw627 : Cond.selects yX7_noRow.cls yX7_noRow yX7_noRow ∈ tb := tb_in (List.mem_of_getElem? (i := 627) (by decide +kernel)) rfl
theorem mlL_68 : f_LV RL 68 mX7_noRow 0 := ⟨lcX7_noRow, tw626, tw627, Or.inl tw625, hdX7_noRow⟩
abbrev mX7_run : f_Y := (yX7_run, cX7_run, 7, (some .int))
theorem tw632 : Cond.code yX7_run cX7_run 7 (some .int) ∈ tb := tb_in (List.mem_of_getElem? (i := 632) (by decide +kernel)) rfl
theorem lcX7_run : f_LC mX7_run := ⟨tw632, tw46⟩
theorem hdX7_run : f_hd mX7_run 3 := ⟨⟨by decide +kernel, by decide +kernel, by decide +kernel⟩, by decide⟩
theorem tw629 : Cond.methodLink RL 72 yX7_run ∈ tb := tb_in (List.mem_of_getElem? (i := 629) (by decide +kernel)) rfl
theorem tw630 : Cond.instanceMethod yX7_run ∈ tb := tb_in (List.mem_of_getElem? (i := 630) (by decide +kernel)) rfl
theorem tw631 : Cond.selects yX7_run.cls yX7_run yX7_run ∈ tb := tb_in (List.mem_of_getElem? (i := 631) (by decide +kernel)) rfl
theorem mlL_72 : f_LV RL 72 mX7_run 3 := ⟨lcX7_run, tw630, tw631, Or.inl tw629, hdX7_run⟩
abbrev mX0_lossOfRow : f_Y := (yX0_lossOfRow, cX0_lossOfRow, 4, (some .int))
theorem tw636 : Cond.code yX0_lossOfRow cX0_lossOfRow 4 (some .int) ∈ tb := tb_in (List.mem_of_getElem? (i := 636) (by decide +kernel)) rfl
theorem lcX0_lossOfRow : f_LC mX0_lossOfRow := ⟨tw636, tw53⟩
theorem hdX0_lossOfRow : f_hd mX0_lossOfRow 0 := ⟨⟨by decide +kernel, by decide +kernel, by decide +kernel⟩, by decide⟩
theorem tw633 : Cond.methodLink RX7 192 yX0_lossOfRow ∈ tb := tb_in (List.mem_of_getElem? (i := 633) (by decide +kernel)) rfl
theorem tw634 : Cond.instanceMethod yX0_lossOfRow ∈ tb := tb_in (List.mem_of_getElem? (i := 634) (by decide +kernel)) rfl
theorem tw635 : Cond.selects yX0_lossOfRow.cls yX0_lossOfRow yX0_lossOfRow ∈ tb := tb_in (List.mem_of_getElem? (i := 635) (by decide +kernel)) rfl
theorem mlX7_192 : f_LV RX7 192 mX0_lossOfRow 0 := ⟨lcX0_lossOfRow, tw634, tw635, Or.inl tw633, hdX0_lossOfRow⟩
abbrev mX0_day : f_Y := (yX0_day, cX0_day, 3, (some .int))
theorem tw640 : Cond.code yX0_day cX0_day 3 (some .int) ∈ tb := tb_in (List.mem_of_getElem? (i := 640) (by decide +kernel)) rfl
theorem lcX0_day : f_LC mX0_day := ⟨tw640, tw53⟩
theorem hdX0_day : f_hd mX0_day 1 := ⟨⟨by decide +kernel, by decide +kernel, by decide +kernel⟩, by decide⟩
theorem tw637 : Cond.methodLink RX0 97 yX0_day ∈ tb := tb_in (List.mem_of_getElem? (i := 637) (by decide +kernel)) rfl
theorem tw638 : Cond.instanceMethod yX0_day ∈ tb := tb_in (List.mem_of_getElem? (i := 638) (by decide +kernel)) rfl
theorem tw639 : Cond.selects yX0_day.cls yX0_day yX0_day ∈ tb := tb_in (List.mem_of_getElem? (i := 639) (by decide +kernel)) rfl
theorem mlX0_97 : f_LV RX0 97 mX0_day 1 := ⟨lcX0_day, tw638, tw639, Or.inl tw637, hdX0_day⟩
theorem tw641 : Cond.methodLink RX0 85 yX0_willDo ∈ tb := tb_in (List.mem_of_getElem? (i := 641) (by decide +kernel)) rfl
theorem mlX0_85 : f_LV RX0 85 mX0_willDo 1 := ⟨lcX0_willDo, tw532, tw533, Or.inl tw641, hdX0_willDo⟩
theorem tw642 : Cond.methodLink RX0 88 yX1_outcome ∈ tb := tb_in (List.mem_of_getElem? (i := 642) (by decide +kernel)) rfl
theorem mlX0_88 : f_LV RX0 88 mX1_outcome 2 := ⟨lcX1_outcome, tw582, tw583, Or.inl tw642, hdX1_outcome⟩
theorem tw643 : Cond.methodLink RX0 100 yX1_lost ∈ tb := tb_in (List.mem_of_getElem? (i := 643) (by decide +kernel)) rfl
theorem mlX0_100 : f_LV RX0 100 mX1_lost 2 := ⟨lcX1_lost, tw578, tw579, Or.inl tw643, hdX1_lost⟩
abbrev mX0_firstGoodOfRow : f_Y := (yX0_firstGoodOfRow, cX0_firstGoodOfRow, 3, (some .int))
theorem tw647 : Cond.code yX0_firstGoodOfRow cX0_firstGoodOfRow 3 (some .int) ∈ tb := tb_in (List.mem_of_getElem? (i := 647) (by decide +kernel)) rfl
theorem lcX0_firstGoodOfRow : f_LC mX0_firstGoodOfRow := ⟨tw647, tw53⟩
theorem hdX0_firstGoodOfRow : f_hd mX0_firstGoodOfRow 0 := ⟨⟨by decide +kernel, by decide +kernel, by decide +kernel⟩, by decide⟩
theorem tw644 : Cond.methodLink RX7 195 yX0_firstGoodOfRow ∈ tb := tb_in (List.mem_of_getElem? (i := 644) (by decide +kernel)) rfl
theorem tw645 : Cond.instanceMethod yX0_firstGoodOfRow ∈ tb := tb_in (List.mem_of_getElem? (i := 645) (by decide +kernel)) rfl
theorem tw646 : Cond.selects yX0_firstGoodOfRow.cls yX0_firstGoodOfRow yX0_firstGoodOfRow ∈ tb := tb_in (List.mem_of_getElem? (i := 646) (by decide +kernel)) rfl
theorem mlX7_195 : f_LV RX7 195 mX0_firstGoodOfRow 0 := ⟨lcX0_firstGoodOfRow, tw645, tw646, Or.inl tw644, hdX0_firstGoodOfRow⟩
theorem tw648 : Cond.methodLink RX7 198 yX0_day ∈ tb := tb_in (List.mem_of_getElem? (i := 648) (by decide +kernel)) rfl
theorem mlX7_198 : f_LV RX7 198 mX0_day 1 := ⟨lcX0_day, tw638, tw639, Or.inl tw648, hdX0_day⟩
abbrev mX7_round : f_Y := (yX7_round, cX7_round, 2, (some .int))
theorem tw652 : Cond.code yX7_round cX7_round 2 (some .int) ∈ tb := tb_in (List.mem_of_getElem? (i := 652) (by decide +kernel)) rfl
theorem lcX7_round : f_LC mX7_round := ⟨tw652, tw46⟩
theorem hdX7_round : f_hd mX7_round 0 := ⟨⟨by decide +kernel, by decide +kernel, by decide +kernel⟩, by decide⟩
theorem tw649 : Cond.methodLink RL 77 yX7_round ∈ tb := tb_in (List.mem_of_getElem? (i := 649) (by decide +kernel)) rfl
theorem tw650 : Cond.instanceMethod yX7_round ∈ tb := tb_in (List.mem_of_getElem? (i := 650) (by decide +kernel)) rfl
theorem tw651 : Cond.selects yX7_round.cls yX7_round yX7_round ∈ tb := tb_in (List.mem_of_getElem? (i := 651) (by decide +kernel)) rfl
theorem mlL_77 : f_LV RL 77 mX7_round 0 := ⟨lcX7_round, tw650, tw651, Or.inl tw649, hdX7_round⟩
abbrev mX7_fillTimes : f_Y := (yX7_fillTimes, cX7_fillTimes, 4, none)
theorem tw656 : Cond.code yX7_fillTimes cX7_fillTimes 4 none ∈ tb := tb_in (List.mem_of_getElem? (i := 656) (by decide +kernel)) rfl
theorem lcX7_fillTimes : f_LC mX7_fillTimes := ⟨tw656, tw46⟩
theorem hdX7_fillTimes : f_hd mX7_fillTimes 1 := ⟨⟨by decide +kernel, by decide +kernel, by decide +kernel⟩, by decide⟩
theorem tw653 : Cond.methodLink RX7 201 yX7_fillTimes ∈ tb := tb_in (List.mem_of_getElem? (i := 653) (by decide +kernel)) rfl
theorem tw655 : Cond.instanceMethod yX7_fillTimes ∈ tb := tb_in (List.mem_of_getElem? (i := 655) (by decide +kernel)) rfl
theorem tw10 : Cond.selects yX7_fillTimes.cls yX7_fillTimes yX7_fillTimes ∈ tb := tb_in (List.mem_of_getElem? (i := 10) (by decide +kernel)) rfl
theorem mlX7_201 : f_LV RX7 201 mX7_fillTimes 1 := ⟨lcX7_fillTimes, tw655, tw10, Or.inl tw653, hdX7_fillTimes⟩
abbrev mX0_doingsOfRow : f_Y := (yX0_doingsOfRow, cX0_doingsOfRow, 3, (some .int))
theorem tw660 : Cond.code yX0_doingsOfRow cX0_doingsOfRow 3 (some .int) ∈ tb := tb_in (List.mem_of_getElem? (i := 660) (by decide +kernel)) rfl
theorem lcX0_doingsOfRow : f_LC mX0_doingsOfRow := ⟨tw660, tw53⟩
theorem hdX0_doingsOfRow : f_hd mX0_doingsOfRow 0 := ⟨⟨by decide +kernel, by decide +kernel, by decide +kernel⟩, by decide⟩
theorem tw657 : Cond.methodLink RX7 284 yX0_doingsOfRow ∈ tb := tb_in (List.mem_of_getElem? (i := 657) (by decide +kernel)) rfl
theorem tw658 : Cond.instanceMethod yX0_doingsOfRow ∈ tb := tb_in (List.mem_of_getElem? (i := 658) (by decide +kernel)) rfl
theorem tw659 : Cond.selects yX0_doingsOfRow.cls yX0_doingsOfRow yX0_doingsOfRow ∈ tb := tb_in (List.mem_of_getElem? (i := 659) (by decide +kernel)) rfl
theorem mlX7_284 : f_LV RX7 284 mX0_doingsOfRow 0 := ⟨lcX0_doingsOfRow, tw658, tw659, Or.inl tw657, hdX0_doingsOfRow⟩
abbrev mX7_comesRoundAfter : f_Y := (yX7_comesRoundAfter, cX7_comesRoundAfter, 4, (some .boolean))
theorem tw664 : Cond.code yX7_comesRoundAfter cX7_comesRoundAfter 4 (some .boolean) ∈ tb := tb_in (List.mem_of_getElem? (i := 664) (by decide +kernel)) rfl
theorem lcX7_comesRoundAfter : f_LC mX7_comesRoundAfter := ⟨tw664, tw46⟩
theorem hdX7_comesRoundAfter : f_hd mX7_comesRoundAfter 1 := ⟨⟨by decide +kernel, by decide +kernel, by decide +kernel⟩, by decide⟩
theorem tw661 : Cond.methodLink RX7 205 yX7_comesRoundAfter ∈ tb := tb_in (List.mem_of_getElem? (i := 661) (by decide +kernel)) rfl
theorem tw663 : Cond.instanceMethod yX7_comesRoundAfter ∈ tb := tb_in (List.mem_of_getElem? (i := 663) (by decide +kernel)) rfl
theorem tw11 : Cond.selects yX7_comesRoundAfter.cls yX7_comesRoundAfter yX7_comesRoundAfter ∈ tb := tb_in (List.mem_of_getElem? (i := 11) (by decide +kernel)) rfl
theorem mlX7_205 : f_LV RX7 205 mX7_comesRoundAfter 1 := ⟨lcX7_comesRoundAfter, tw663, tw11, Or.inl tw661, hdX7_comesRoundAfter⟩
abbrev mX7_order : f_Y := (yX7_order, cX7_order, 3, (some .int))
theorem tw668 : Cond.code yX7_order cX7_order 3 (some .int) ∈ tb := tb_in (List.mem_of_getElem? (i := 668) (by decide +kernel)) rfl
theorem lcX7_order : f_LC mX7_order := ⟨tw668, tw46⟩
theorem hdX7_order : f_hd mX7_order 1 := ⟨⟨by decide +kernel, by decide +kernel, by decide +kernel⟩, by decide⟩
theorem tw665 : Cond.methodLink RL 81 yX7_order ∈ tb := tb_in (List.mem_of_getElem? (i := 665) (by decide +kernel)) rfl
theorem tw666 : Cond.instanceMethod yX7_order ∈ tb := tb_in (List.mem_of_getElem? (i := 666) (by decide +kernel)) rfl
theorem tw667 : Cond.selects yX7_order.cls yX7_order yX7_order ∈ tb := tb_in (List.mem_of_getElem? (i := 667) (by decide +kernel)) rfl
theorem mlL_81 : f_LV RL 81 mX7_order 1 := ⟨lcX7_order, tw666, tw667, Or.inl tw665, hdX7_order⟩
abbrev mX4_seek : f_Y := (yX4_seek, cX4_seek, 3, none)
theorem tw672 : Cond.code yX4_seek cX4_seek 3 none ∈ tb := tb_in (List.mem_of_getElem? (i := 672) (by decide +kernel)) rfl
theorem tw54 : Cond.initialized RX4 ∈ tb := tb_in (List.mem_of_getElem? (i := 54) (by decide +kernel)) rfl
theorem lcX4_seek : f_LC mX4_seek := ⟨tw672, tw54⟩
theorem hdX4_seek : f_hd mX4_seek 1 := ⟨⟨by decide +kernel, by decide +kernel, by decide +kernel⟩, by decide⟩
theorem tw669 : Cond.methodLink RX7 208 yX4_seek ∈ tb := tb_in (List.mem_of_getElem? (i := 669) (by decide +kernel)) rfl
theorem tw670 : Cond.instanceMethod yX4_seek ∈ tb := tb_in (List.mem_of_getElem? (i := 670) (by decide +kernel)) rfl
theorem tw671 : Cond.selects yX4_seek.cls yX4_seek yX4_seek ∈ tb := tb_in (List.mem_of_getElem? (i := 671) (by decide +kernel)) rfl
theorem mlX7_208 : f_LV RX7 208 mX4_seek 1 := ⟨lcX4_seek, tw670, tw671, Or.inl tw669, hdX4_seek⟩
theorem tw673 : Cond.methodLink RX4 30 yX3_fill ∈ tb := tb_in (List.mem_of_getElem? (i := 673) (by decide +kernel)) rfl
theorem mlX4_30 : f_LV RX4 30 mX3_fill 2 := ⟨lcX3_fill, tw168, tw169, Or.inl tw673, hdX3_fill⟩
theorem tw674 : Cond.methodLink RX4 39 yX3_size ∈ tb := tb_in (List.mem_of_getElem? (i := 674) (by decide +kernel)) rfl
theorem mlX4_39 : f_LV RX4 39 mX3_size 0 := ⟨lcX3_size, tw338, tw339, Or.inl tw674, hdX3_size⟩
theorem tw675 : Cond.methodLink RX4 43 yX3_at ∈ tb := tb_in (List.mem_of_getElem? (i := 675) (by decide +kernel)) rfl
theorem mlX4_43 : f_LV RX4 43 mX3_at 1 := ⟨lcX3_at, tw346, tw347, Or.inl tw675, hdX3_at⟩
abbrev mX4_addLeft : f_Y := (yX4_addLeft, cX4_addLeft, 3, none)
theorem tw679 : Cond.code yX4_addLeft cX4_addLeft 3 none ∈ tb := tb_in (List.mem_of_getElem? (i := 679) (by decide +kernel)) rfl
theorem lcX4_addLeft : f_LC mX4_addLeft := ⟨tw679, tw54⟩
theorem hdX4_addLeft : f_hd mX4_addLeft 2 := ⟨⟨by decide +kernel, by decide +kernel, by decide +kernel⟩, by decide⟩
theorem tw676 : Cond.methodLink RX4 47 yX4_addLeft ∈ tb := tb_in (List.mem_of_getElem? (i := 676) (by decide +kernel)) rfl
theorem tw678 : Cond.instanceMethod yX4_addLeft ∈ tb := tb_in (List.mem_of_getElem? (i := 678) (by decide +kernel)) rfl
theorem tw12 : Cond.selects yX4_addLeft.cls yX4_addLeft yX4_addLeft ∈ tb := tb_in (List.mem_of_getElem? (i := 12) (by decide +kernel)) rfl
theorem mlX4_47 : f_LV RX4 47 mX4_addLeft 2 := ⟨lcX4_addLeft, tw678, tw12, Or.inl tw676, hdX4_addLeft⟩
theorem tw680 : Cond.methodLink RX4 59 yX3_put ∈ tb := tb_in (List.mem_of_getElem? (i := 680) (by decide +kernel)) rfl
theorem mlX4_59 : f_LV RX4 59 mX3_put 2 := ⟨lcX3_put, tw528, tw529, Or.inl tw680, hdX3_put⟩
abbrev mX4_tryFrom : f_Y := (yX4_tryFrom, cX4_tryFrom, 6, none)
theorem tw684 : Cond.code yX4_tryFrom cX4_tryFrom 6 none ∈ tb := tb_in (List.mem_of_getElem? (i := 684) (by decide +kernel)) rfl
theorem lcX4_tryFrom : f_LC mX4_tryFrom := ⟨tw684, tw54⟩
theorem hdX4_tryFrom : f_hd mX4_tryFrom 4 := ⟨⟨by decide +kernel, by decide +kernel, by decide +kernel⟩, by decide⟩
theorem tw682 : Cond.methodLink RX4 55 yX4_tryFrom ∈ tb := tb_in (List.mem_of_getElem? (i := 682) (by decide +kernel)) rfl
theorem tw683 : Cond.static yX4_tryFrom ∈ tb := tb_in (List.mem_of_getElem? (i := 683) (by decide +kernel)) rfl
theorem mlX4_55 : f_LS RX4 55 mX4_tryFrom 4 := ⟨lcX4_tryFrom, tw683, Or.inl tw682, hdX4_tryFrom⟩
theorem tw685 : Cond.methodLink RX4 62 yX3_copyFrom ∈ tb := tb_in (List.mem_of_getElem? (i := 685) (by decide +kernel)) rfl
theorem mlX4_62 : f_LV RX4 62 mX3_copyFrom 1 := ⟨lcX3_copyFrom, tw397, tw398, Or.inl tw685, hdX3_copyFrom⟩
theorem tw686 : Cond.methodLink RX4 66 yX1_kinds ∈ tb := tb_in (List.mem_of_getElem? (i := 686) (by decide +kernel)) rfl
theorem mlX4_66 : f_LV RX4 66 mX1_kinds 0 := ⟨lcX1_kinds, tw464, tw465, Or.inl tw686, hdX1_kinds⟩
abbrev mX0_stepDown : f_Y := (yX0_stepDown, cX0_stepDown, 1, (some (.object "AsWithTheLast$Learner")))
theorem tw690 : Cond.code yX0_stepDown cX0_stepDown 1 (some (.object "AsWithTheLast$Learner")) ∈ tb := tb_in (List.mem_of_getElem? (i := 690) (by decide +kernel)) rfl
theorem lcX0_stepDown : f_LC mX0_stepDown := ⟨tw690, tw53⟩
theorem hdX0_stepDown : f_hd mX0_stepDown 0 := ⟨⟨by decide +kernel, by decide +kernel, by decide +kernel⟩, by decide⟩
theorem tw687 : Cond.methodLink RX4 69 yX0_stepDown ∈ tb := tb_in (List.mem_of_getElem? (i := 687) (by decide +kernel)) rfl
theorem tw688 : Cond.instanceMethod yX0_stepDown ∈ tb := tb_in (List.mem_of_getElem? (i := 688) (by decide +kernel)) rfl
theorem tw689 : Cond.selects yX0_stepDown.cls yX0_stepDown yX0_stepDown ∈ tb := tb_in (List.mem_of_getElem? (i := 689) (by decide +kernel)) rfl
theorem mlX4_69 : f_LV RX4 69 mX0_stepDown 0 := ⟨lcX0_stepDown, tw688, tw689, Or.inl tw687, hdX0_stepDown⟩
abbrev mX0_copyFrom : f_Y := (yX0_copyFrom, cX0_copyFrom, 2, none)
theorem tw694 : Cond.code yX0_copyFrom cX0_copyFrom 2 none ∈ tb := tb_in (List.mem_of_getElem? (i := 694) (by decide +kernel)) rfl
theorem lcX0_copyFrom : f_LC mX0_copyFrom := ⟨tw694, tw53⟩
theorem hdX0_copyFrom : f_hd mX0_copyFrom 1 := ⟨⟨by decide +kernel, by decide +kernel, by decide +kernel⟩, by decide⟩
theorem tw691 : Cond.methodLink RX0 103 yX0_copyFrom ∈ tb := tb_in (List.mem_of_getElem? (i := 691) (by decide +kernel)) rfl
theorem tw693 : Cond.instanceMethod yX0_copyFrom ∈ tb := tb_in (List.mem_of_getElem? (i := 693) (by decide +kernel)) rfl
theorem tw13 : Cond.selects yX0_copyFrom.cls yX0_copyFrom yX0_copyFrom ∈ tb := tb_in (List.mem_of_getElem? (i := 13) (by decide +kernel)) rfl
theorem mlX0_103 : f_LV RX0 103 mX0_copyFrom 1 := ⟨lcX0_copyFrom, tw693, tw13, Or.inl tw691, hdX0_copyFrom⟩
theorem tw695 : Cond.methodLink RX0 107 yX3_copyFrom ∈ tb := tb_in (List.mem_of_getElem? (i := 695) (by decide +kernel)) rfl
theorem mlX0_107 : f_LV RX0 107 mX3_copyFrom 1 := ⟨lcX3_copyFrom, tw397, tw398, Or.inl tw695, hdX3_copyFrom⟩
theorem tw696 : Cond.methodLink RX4 75 yX0_day ∈ tb := tb_in (List.mem_of_getElem? (i := 696) (by decide +kernel)) rfl
theorem mlX4_75 : f_LV RX4 75 mX0_day 1 := ⟨lcX0_day, tw638, tw639, Or.inl tw696, hdX0_day⟩
theorem tw697 : Cond.methodLink RX4 78 yX1_lost ∈ tb := tb_in (List.mem_of_getElem? (i := 697) (by decide +kernel)) rfl
theorem mlX4_78 : f_LV RX4 78 mX1_lost 2 := ⟨lcX1_lost, tw578, tw579, Or.inl tw697, hdX1_lost⟩
abbrev mX7_best : f_Y := (yX7_best, cX7_best, 8, (some .int))
theorem tw701 : Cond.code yX7_best cX7_best 8 (some .int) ∈ tb := tb_in (List.mem_of_getElem? (i := 701) (by decide +kernel)) rfl
theorem lcX7_best : f_LC mX7_best := ⟨tw701, tw46⟩
theorem hdX7_best : f_hd mX7_best 1 := ⟨⟨by decide +kernel, by decide +kernel, by decide +kernel⟩, by decide⟩
theorem tw698 : Cond.methodLink RL 85 yX7_best ∈ tb := tb_in (List.mem_of_getElem? (i := 698) (by decide +kernel)) rfl
theorem tw699 : Cond.instanceMethod yX7_best ∈ tb := tb_in (List.mem_of_getElem? (i := 699) (by decide +kernel)) rfl
theorem tw700 : Cond.selects yX7_best.cls yX7_best yX7_best ∈ tb := tb_in (List.mem_of_getElem? (i := 700) (by decide +kernel)) rfl
theorem mlL_85 : f_LV RL 85 mX7_best 1 := ⟨lcX7_best, tw699, tw700, Or.inl tw698, hdX7_best⟩
theorem tw702 : Cond.methodLink RX7 217 yX0_hear ∈ tb := tb_in (List.mem_of_getElem? (i := 702) (by decide +kernel)) rfl
theorem mlX7_217 : f_LV RX7 217 mX0_hear 2 := ⟨lcX0_hear, tw524, tw525, Or.inl tw702, hdX0_hear⟩
theorem tw703 : Cond.methodLink RX7 220 yX7_wordOf ∈ tb := tb_in (List.mem_of_getElem? (i := 703) (by decide +kernel)) rfl
theorem mlX7_220 : f_LS RX7 220 mX7_wordOf 2 := ⟨lcX7_wordOf, tw599, Or.inl tw703, hdX7_wordOf⟩
abbrev mX7_seen : f_Y := (yX7_seen, cX7_seen, 3, (some .int))
theorem tw707 : Cond.code yX7_seen cX7_seen 3 (some .int) ∈ tb := tb_in (List.mem_of_getElem? (i := 707) (by decide +kernel)) rfl
theorem lcX7_seen : f_LC mX7_seen := ⟨tw707, tw46⟩
theorem hdX7_seen : f_hd mX7_seen 2 := ⟨⟨by decide +kernel, by decide +kernel, by decide +kernel⟩, by decide⟩
theorem tw704 : Cond.methodLink RL 89 yX7_seen ∈ tb := tb_in (List.mem_of_getElem? (i := 704) (by decide +kernel)) rfl
theorem tw705 : Cond.instanceMethod yX7_seen ∈ tb := tb_in (List.mem_of_getElem? (i := 705) (by decide +kernel)) rfl
theorem tw706 : Cond.selects yX7_seen.cls yX7_seen yX7_seen ∈ tb := tb_in (List.mem_of_getElem? (i := 706) (by decide +kernel)) rfl
theorem mlL_89 : f_LV RL 89 mX7_seen 2 := ⟨lcX7_seen, tw705, tw706, Or.inl tw704, hdX7_seen⟩
abbrev mX7_forget : f_Y := (yX7_forget, cX7_forget, 2, (some .int))
theorem tw711 : Cond.code yX7_forget cX7_forget 2 (some .int) ∈ tb := tb_in (List.mem_of_getElem? (i := 711) (by decide +kernel)) rfl
theorem lcX7_forget : f_LC mX7_forget := ⟨tw711, tw46⟩
theorem hdX7_forget : f_hd mX7_forget 0 := ⟨⟨by decide +kernel, by decide +kernel, by decide +kernel⟩, by decide⟩
theorem tw708 : Cond.methodLink RL 93 yX7_forget ∈ tb := tb_in (List.mem_of_getElem? (i := 708) (by decide +kernel)) rfl
theorem tw709 : Cond.instanceMethod yX7_forget ∈ tb := tb_in (List.mem_of_getElem? (i := 709) (by decide +kernel)) rfl
theorem tw710 : Cond.selects yX7_forget.cls yX7_forget yX7_forget ∈ tb := tb_in (List.mem_of_getElem? (i := 710) (by decide +kernel)) rfl
theorem mlL_93 : f_LV RL 93 mX7_forget 0 := ⟨lcX7_forget, tw709, tw710, Or.inl tw708, hdX7_forget⟩
abbrev mX7_fits : f_Y := (yX7_fits, cX7_fits, 3, (some .int))
theorem tw715 : Cond.code yX7_fits cX7_fits 3 (some .int) ∈ tb := tb_in (List.mem_of_getElem? (i := 715) (by decide +kernel)) rfl
theorem lcX7_fits : f_LC mX7_fits := ⟨tw715, tw46⟩
theorem hdX7_fits : f_hd mX7_fits 0 := ⟨⟨by decide +kernel, by decide +kernel, by decide +kernel⟩, by decide⟩
theorem tw712 : Cond.methodLink RL 97 yX7_fits ∈ tb := tb_in (List.mem_of_getElem? (i := 712) (by decide +kernel)) rfl
theorem tw713 : Cond.instanceMethod yX7_fits ∈ tb := tb_in (List.mem_of_getElem? (i := 713) (by decide +kernel)) rfl
theorem tw714 : Cond.selects yX7_fits.cls yX7_fits yX7_fits ∈ tb := tb_in (List.mem_of_getElem? (i := 714) (by decide +kernel)) rfl
theorem mlL_97 : f_LV RL 97 mX7_fits 0 := ⟨lcX7_fits, tw713, tw714, Or.inl tw712, hdX7_fits⟩
abbrev mX7_canBe : f_Y := (yX7_canBe, cX7_canBe, 5, (some .boolean))
theorem tw719 : Cond.code yX7_canBe cX7_canBe 5 (some .boolean) ∈ tb := tb_in (List.mem_of_getElem? (i := 719) (by decide +kernel)) rfl
theorem lcX7_canBe : f_LC mX7_canBe := ⟨tw719, tw46⟩
theorem hdX7_canBe : f_hd mX7_canBe 2 := ⟨⟨by decide +kernel, by decide +kernel, by decide +kernel⟩, by decide⟩
theorem tw716 : Cond.methodLink RX7 226 yX7_canBe ∈ tb := tb_in (List.mem_of_getElem? (i := 716) (by decide +kernel)) rfl
theorem tw718 : Cond.instanceMethod yX7_canBe ∈ tb := tb_in (List.mem_of_getElem? (i := 718) (by decide +kernel)) rfl
theorem tw14 : Cond.selects yX7_canBe.cls yX7_canBe yX7_canBe ∈ tb := tb_in (List.mem_of_getElem? (i := 14) (by decide +kernel)) rfl
theorem mlX7_226 : f_LV RX7 226 mX7_canBe 2 := ⟨lcX7_canBe, tw718, tw14, Or.inl tw716, hdX7_canBe⟩
abbrev mX7_speaksAgainst : f_Y := (yX7_speaksAgainst, cX7_speaksAgainst, 5, (some .boolean))
theorem tw723 : Cond.code yX7_speaksAgainst cX7_speaksAgainst 5 (some .boolean) ∈ tb := tb_in (List.mem_of_getElem? (i := 723) (by decide +kernel)) rfl
theorem lcX7_speaksAgainst : f_LC mX7_speaksAgainst := ⟨tw723, tw46⟩
theorem hdX7_speaksAgainst : f_hd mX7_speaksAgainst 2 := ⟨⟨by decide +kernel, by decide +kernel, by decide +kernel⟩, by decide⟩
theorem tw720 : Cond.methodLink RX7 287 yX7_speaksAgainst ∈ tb := tb_in (List.mem_of_getElem? (i := 720) (by decide +kernel)) rfl
theorem tw722 : Cond.instanceMethod yX7_speaksAgainst ∈ tb := tb_in (List.mem_of_getElem? (i := 722) (by decide +kernel)) rfl
theorem tw15 : Cond.selects yX7_speaksAgainst.cls yX7_speaksAgainst yX7_speaksAgainst ∈ tb := tb_in (List.mem_of_getElem? (i := 15) (by decide +kernel)) rfl
theorem mlX7_287 : f_LV RX7 287 mX7_speaksAgainst 2 := ⟨lcX7_speaksAgainst, tw722, tw15, Or.inl tw720, hdX7_speaksAgainst⟩
abbrev mX7_firsts : f_Y := (yX7_firsts, cX7_firsts, 4, (some .int))
theorem tw727 : Cond.code yX7_firsts cX7_firsts 4 (some .int) ∈ tb := tb_in (List.mem_of_getElem? (i := 727) (by decide +kernel)) rfl
theorem lcX7_firsts : f_LC mX7_firsts := ⟨tw727, tw46⟩
theorem hdX7_firsts : f_hd mX7_firsts 1 := ⟨⟨by decide +kernel, by decide +kernel, by decide +kernel⟩, by decide⟩
theorem tw724 : Cond.methodLink RL 101 yX7_firsts ∈ tb := tb_in (List.mem_of_getElem? (i := 724) (by decide +kernel)) rfl
theorem tw725 : Cond.instanceMethod yX7_firsts ∈ tb := tb_in (List.mem_of_getElem? (i := 725) (by decide +kernel)) rfl
theorem tw726 : Cond.selects yX7_firsts.cls yX7_firsts yX7_firsts ∈ tb := tb_in (List.mem_of_getElem? (i := 726) (by decide +kernel)) rfl
theorem mlL_101 : f_LV RL 101 mX7_firsts 1 := ⟨lcX7_firsts, tw725, tw726, Or.inl tw724, hdX7_firsts⟩
abbrev mX7_ask : f_Y := (yX7_ask, cX7_ask, 7, (some .int))
theorem tw731 : Cond.code yX7_ask cX7_ask 7 (some .int) ∈ tb := tb_in (List.mem_of_getElem? (i := 731) (by decide +kernel)) rfl
theorem lcX7_ask : f_LC mX7_ask := ⟨tw731, tw46⟩
theorem hdX7_ask : f_hd mX7_ask 1 := ⟨⟨by decide +kernel, by decide +kernel, by decide +kernel⟩, by decide⟩
theorem tw728 : Cond.methodLink RL 105 yX7_ask ∈ tb := tb_in (List.mem_of_getElem? (i := 728) (by decide +kernel)) rfl
theorem tw729 : Cond.instanceMethod yX7_ask ∈ tb := tb_in (List.mem_of_getElem? (i := 729) (by decide +kernel)) rfl
theorem tw730 : Cond.selects yX7_ask.cls yX7_ask yX7_ask ∈ tb := tb_in (List.mem_of_getElem? (i := 730) (by decide +kernel)) rfl
theorem mlL_105 : f_LV RL 105 mX7_ask 1 := ⟨lcX7_ask, tw729, tw730, Or.inl tw728, hdX7_ask⟩
theorem tw732 : Cond.methodLink RX7 230 yX7_fits ∈ tb := tb_in (List.mem_of_getElem? (i := 732) (by decide +kernel)) rfl
theorem mlX7_230 : f_LV RX7 230 mX7_fits 0 := ⟨lcX7_fits, tw713, tw714, Or.inl tw732, hdX7_fits⟩
abbrev mX7_mostAlike : f_Y := (yX7_mostAlike, cX7_mostAlike, 6, (some .int))
theorem tw736 : Cond.code yX7_mostAlike cX7_mostAlike 6 (some .int) ∈ tb := tb_in (List.mem_of_getElem? (i := 736) (by decide +kernel)) rfl
theorem lcX7_mostAlike : f_LC mX7_mostAlike := ⟨tw736, tw46⟩
theorem hdX7_mostAlike : f_hd mX7_mostAlike 2 := ⟨⟨by decide +kernel, by decide +kernel, by decide +kernel⟩, by decide⟩
theorem tw733 : Cond.methodLink RX7 233 yX7_mostAlike ∈ tb := tb_in (List.mem_of_getElem? (i := 733) (by decide +kernel)) rfl
theorem tw735 : Cond.instanceMethod yX7_mostAlike ∈ tb := tb_in (List.mem_of_getElem? (i := 735) (by decide +kernel)) rfl
theorem tw16 : Cond.selects yX7_mostAlike.cls yX7_mostAlike yX7_mostAlike ∈ tb := tb_in (List.mem_of_getElem? (i := 16) (by decide +kernel)) rfl
theorem mlX7_233 : f_LV RX7 233 mX7_mostAlike 2 := ⟨lcX7_mostAlike, tw735, tw16, Or.inl tw733, hdX7_mostAlike⟩
theorem tw737 : Cond.methodLink RX7 290 yX3_fill ∈ tb := tb_in (List.mem_of_getElem? (i := 737) (by decide +kernel)) rfl
theorem mlX7_290 : f_LV RX7 290 mX3_fill 2 := ⟨lcX3_fill, tw168, tw169, Or.inl tw737, hdX3_fill⟩
theorem tw738 : Cond.methodLink RX7 293 yX3_put ∈ tb := tb_in (List.mem_of_getElem? (i := 738) (by decide +kernel)) rfl
theorem mlX7_293 : f_LV RX7 293 mX3_put 2 := ⟨lcX3_put, tw528, tw529, Or.inl tw738, hdX3_put⟩
theorem mlX7_296 : Cond.methodLink RX7 296 Lib.Math.max.name ∈ tb := tb_in (List.mem_of_getElem? (i := 739) (by decide +kernel)) (by decide +kernel)
abbrev mX7_rule : f_Y := (yX7_rule, cX7_rule, 6, (some .int))
theorem tw743 : Cond.code yX7_rule cX7_rule 6 (some .int) ∈ tb := tb_in (List.mem_of_getElem? (i := 743) (by decide +kernel)) rfl
theorem lcX7_rule : f_LC mX7_rule := ⟨tw743, tw46⟩
theorem hdX7_rule : f_hd mX7_rule 1 := ⟨⟨by decide +kernel, by decide +kernel, by decide +kernel⟩, by decide⟩
theorem tw740 : Cond.methodLink RL 109 yX7_rule ∈ tb := tb_in (List.mem_of_getElem? (i := 740) (by decide +kernel)) rfl
theorem tw741 : Cond.instanceMethod yX7_rule ∈ tb := tb_in (List.mem_of_getElem? (i := 741) (by decide +kernel)) rfl
theorem tw742 : Cond.selects yX7_rule.cls yX7_rule yX7_rule ∈ tb := tb_in (List.mem_of_getElem? (i := 742) (by decide +kernel)) rfl
theorem mlL_109 : f_LV RL 109 mX7_rule 1 := ⟨lcX7_rule, tw741, tw742, Or.inl tw740, hdX7_rule⟩
abbrev mX7_firstWrong : f_Y := (yX7_firstWrong, cX7_firstWrong, 7, (some .int))
theorem tw748 : Cond.code yX7_firstWrong cX7_firstWrong 7 (some .int) ∈ tb := tb_in (List.mem_of_getElem? (i := 748) (by decide +kernel)) rfl
theorem lcX7_firstWrong : f_LC mX7_firstWrong := ⟨tw748, tw46⟩
theorem hdX7_firstWrong : f_hd mX7_firstWrong 3 := ⟨⟨by decide +kernel, by decide +kernel, by decide +kernel⟩, by decide⟩
theorem tw745 : Cond.methodLink RX7 242 yX7_firstWrong ∈ tb := tb_in (List.mem_of_getElem? (i := 745) (by decide +kernel)) rfl
theorem tw747 : Cond.instanceMethod yX7_firstWrong ∈ tb := tb_in (List.mem_of_getElem? (i := 747) (by decide +kernel)) rfl
theorem tw17 : Cond.selects yX7_firstWrong.cls yX7_firstWrong yX7_firstWrong ∈ tb := tb_in (List.mem_of_getElem? (i := 17) (by decide +kernel)) rfl
theorem mlX7_242 : f_LV RX7 242 mX7_firstWrong 3 := ⟨lcX7_firstWrong, tw747, tw17, Or.inl tw745, hdX7_firstWrong⟩
abbrev mX7_wrong : f_Y := (yX7_wrong, cX7_wrong, 4, (some .int))
theorem tw752 : Cond.code yX7_wrong cX7_wrong 4 (some .int) ∈ tb := tb_in (List.mem_of_getElem? (i := 752) (by decide +kernel)) rfl
theorem lcX7_wrong : f_LC mX7_wrong := ⟨tw752, tw46⟩
theorem hdX7_wrong : f_hd mX7_wrong 3 := ⟨⟨by decide +kernel, by decide +kernel, by decide +kernel⟩, by decide⟩
theorem tw749 : Cond.methodLink RL 113 yX7_wrong ∈ tb := tb_in (List.mem_of_getElem? (i := 749) (by decide +kernel)) rfl
theorem tw750 : Cond.instanceMethod yX7_wrong ∈ tb := tb_in (List.mem_of_getElem? (i := 750) (by decide +kernel)) rfl
theorem tw751 : Cond.selects yX7_wrong.cls yX7_wrong yX7_wrong ∈ tb := tb_in (List.mem_of_getElem? (i := 751) (by decide +kernel)) rfl
theorem mlL_113 : f_LV RL 113 mX7_wrong 3 := ⟨lcX7_wrong, tw750, tw751, Or.inl tw749, hdX7_wrong⟩
abbrev mX7_byTurns : f_Y := (yX7_byTurns, cX7_byTurns, 2, (some .int))
theorem tw756 : Cond.code yX7_byTurns cX7_byTurns 2 (some .int) ∈ tb := tb_in (List.mem_of_getElem? (i := 756) (by decide +kernel)) rfl
theorem lcX7_byTurns : f_LC mX7_byTurns := ⟨tw756, tw46⟩
theorem hdX7_byTurns : f_hd mX7_byTurns 1 := ⟨⟨by decide +kernel, by decide +kernel, by decide +kernel⟩, by decide⟩
theorem tw753 : Cond.methodLink RL 118 yX7_byTurns ∈ tb := tb_in (List.mem_of_getElem? (i := 753) (by decide +kernel)) rfl
theorem tw754 : Cond.instanceMethod yX7_byTurns ∈ tb := tb_in (List.mem_of_getElem? (i := 754) (by decide +kernel)) rfl
theorem tw755 : Cond.selects yX7_byTurns.cls yX7_byTurns yX7_byTurns ∈ tb := tb_in (List.mem_of_getElem? (i := 755) (by decide +kernel)) rfl
theorem mlL_118 : f_LV RL 118 mX7_byTurns 1 := ⟨lcX7_byTurns, tw754, tw755, Or.inl tw753, hdX7_byTurns⟩
abbrev mX7_lossAtMothersTurn : f_Y := (yX7_lossAtMothersTurn, cX7_lossAtMothersTurn, 7, (some .int))
theorem tw759 : Cond.code yX7_lossAtMothersTurn cX7_lossAtMothersTurn 7 (some .int) ∈ tb := tb_in (List.mem_of_getElem? (i := 759) (by decide +kernel)) rfl
theorem lcX7_lossAtMothersTurn : f_LC mX7_lossAtMothersTurn := ⟨tw759, tw46⟩
theorem hdX7_lossAtMothersTurn : f_hd mX7_lossAtMothersTurn 4 := ⟨⟨by decide +kernel, by decide +kernel, by decide +kernel⟩, by decide⟩
theorem tw757 : Cond.methodLink RX7 246 yX7_lossAtMothersTurn ∈ tb := tb_in (List.mem_of_getElem? (i := 757) (by decide +kernel)) rfl
theorem tw758 : Cond.static yX7_lossAtMothersTurn ∈ tb := tb_in (List.mem_of_getElem? (i := 758) (by decide +kernel)) rfl
theorem mlX7_246 : f_LS RX7 246 mX7_lossAtMothersTurn 4 := ⟨lcX7_lossAtMothersTurn, tw758, Or.inl tw757, hdX7_lossAtMothersTurn⟩
abbrev mX7_lossAtOthersTurn : f_Y := (yX7_lossAtOthersTurn, cX7_lossAtOthersTurn, 8, (some .int))
theorem tw762 : Cond.code yX7_lossAtOthersTurn cX7_lossAtOthersTurn 8 (some .int) ∈ tb := tb_in (List.mem_of_getElem? (i := 762) (by decide +kernel)) rfl
theorem lcX7_lossAtOthersTurn : f_LC mX7_lossAtOthersTurn := ⟨tw762, tw46⟩
theorem hdX7_lossAtOthersTurn : f_hd mX7_lossAtOthersTurn 4 := ⟨⟨by decide +kernel, by decide +kernel, by decide +kernel⟩, by decide⟩
theorem tw760 : Cond.methodLink RX7 309 yX7_lossAtOthersTurn ∈ tb := tb_in (List.mem_of_getElem? (i := 760) (by decide +kernel)) rfl
theorem tw761 : Cond.static yX7_lossAtOthersTurn ∈ tb := tb_in (List.mem_of_getElem? (i := 761) (by decide +kernel)) rfl
theorem mlX7_309 : f_LS RX7 309 mX7_lossAtOthersTurn 4 := ⟨lcX7_lossAtOthersTurn, tw761, Or.inl tw760, hdX7_lossAtOthersTurn⟩
theorem tw763 : Cond.methodLink RX7 265 yX1_lost ∈ tb := tb_in (List.mem_of_getElem? (i := 763) (by decide +kernel)) rfl
theorem mlX7_265 : f_LV RX7 265 mX1_lost 2 := ⟨lcX1_lost, tw578, tw579, Or.inl tw763, hdX1_lost⟩
theorem tw764 : Cond.methodLink RX7 312 yX0_stepDown ∈ tb := tb_in (List.mem_of_getElem? (i := 764) (by decide +kernel)) rfl
theorem mlX7_312 : f_LV RX7 312 mX0_stepDown 0 := ⟨lcX0_stepDown, tw688, tw689, Or.inl tw764, hdX0_stepDown⟩
theorem mlX7_316 : Cond.methodLink RX7 316 Lib.Math.min.name ∈ tb := tb_in (List.mem_of_getElem? (i := 765) (by decide +kernel)) (by decide +kernel)
abbrev mX7_mean : f_Y := (yX7_mean, cX7_mean, 7, (some .int))
theorem tw769 : Cond.code yX7_mean cX7_mean 7 (some .int) ∈ tb := tb_in (List.mem_of_getElem? (i := 769) (by decide +kernel)) rfl
theorem lcX7_mean : f_LC mX7_mean := ⟨tw769, tw46⟩
theorem hdX7_mean : f_hd mX7_mean 2 := ⟨⟨by decide +kernel, by decide +kernel, by decide +kernel⟩, by decide⟩
theorem tw766 : Cond.methodLink RL 122 yX7_mean ∈ tb := tb_in (List.mem_of_getElem? (i := 766) (by decide +kernel)) rfl
theorem tw767 : Cond.instanceMethod yX7_mean ∈ tb := tb_in (List.mem_of_getElem? (i := 767) (by decide +kernel)) rfl
theorem tw768 : Cond.selects yX7_mean.cls yX7_mean yX7_mean ∈ tb := tb_in (List.mem_of_getElem? (i := 768) (by decide +kernel)) rfl
theorem mlL_122 : f_LV RL 122 mX7_mean 2 := ⟨lcX7_mean, tw767, tw768, Or.inl tw766, hdX7_mean⟩
abbrev mX1_allChances : f_Y := (yX1_allChances, cX1_allChances, 3, (some .int))
theorem tw773 : Cond.code yX1_allChances cX1_allChances 3 (some .int) ∈ tb := tb_in (List.mem_of_getElem? (i := 773) (by decide +kernel)) rfl
theorem lcX1_allChances : f_LC mX1_allChances := ⟨tw773, tw49⟩
theorem hdX1_allChances : f_hd mX1_allChances 0 := ⟨⟨by decide +kernel, by decide +kernel, by decide +kernel⟩, by decide⟩
theorem tw770 : Cond.methodLink RX7 250 yX1_allChances ∈ tb := tb_in (List.mem_of_getElem? (i := 770) (by decide +kernel)) rfl
theorem tw771 : Cond.instanceMethod yX1_allChances ∈ tb := tb_in (List.mem_of_getElem? (i := 771) (by decide +kernel)) rfl
theorem tw772 : Cond.selects yX1_allChances.cls yX1_allChances yX1_allChances ∈ tb := tb_in (List.mem_of_getElem? (i := 772) (by decide +kernel)) rfl
theorem mlX7_250 : f_LV RX7 250 mX1_allChances 0 := ⟨lcX1_allChances, tw771, tw772, Or.inl tw770, hdX1_allChances⟩
abbrev mX7_lossByChances : f_Y := (yX7_lossByChances, cX7_lossByChances, 8, (some .int))
theorem tw776 : Cond.code yX7_lossByChances cX7_lossByChances 8 (some .int) ∈ tb := tb_in (List.mem_of_getElem? (i := 776) (by decide +kernel)) rfl
theorem lcX7_lossByChances : f_LC mX7_lossByChances := ⟨tw776, tw46⟩
theorem hdX7_lossByChances : f_hd mX7_lossByChances 4 := ⟨⟨by decide +kernel, by decide +kernel, by decide +kernel⟩, by decide⟩
theorem tw774 : Cond.methodLink RX7 253 yX7_lossByChances ∈ tb := tb_in (List.mem_of_getElem? (i := 774) (by decide +kernel)) rfl
theorem tw775 : Cond.static yX7_lossByChances ∈ tb := tb_in (List.mem_of_getElem? (i := 775) (by decide +kernel)) rfl
theorem mlX7_253 : f_LS RX7 253 mX7_lossByChances 4 := ⟨lcX7_lossByChances, tw775, Or.inl tw774, hdX7_lossByChances⟩
abbrev mX7_power : f_Y := (yX7_power, cX7_power, 4, (some .int))
theorem tw779 : Cond.code yX7_power cX7_power 4 (some .int) ∈ tb := tb_in (List.mem_of_getElem? (i := 779) (by decide +kernel)) rfl
theorem lcX7_power : f_LC mX7_power := ⟨tw779, tw46⟩
theorem hdX7_power : f_hd mX7_power 2 := ⟨⟨by decide +kernel, by decide +kernel, by decide +kernel⟩, by decide⟩
theorem tw777 : Cond.methodLink RX7 256 yX7_power ∈ tb := tb_in (List.mem_of_getElem? (i := 777) (by decide +kernel)) rfl
theorem tw778 : Cond.static yX7_power ∈ tb := tb_in (List.mem_of_getElem? (i := 778) (by decide +kernel)) rfl
theorem mlX7_256 : f_LS RX7 256 mX7_power 2 := ⟨lcX7_power, tw778, Or.inl tw777, hdX7_power⟩
abbrev mX7_greatestDivisor : f_Y := (yX7_greatestDivisor, cX7_greatestDivisor, 6, (some .int))
theorem tw782 : Cond.code yX7_greatestDivisor cX7_greatestDivisor 6 (some .int) ∈ tb := tb_in (List.mem_of_getElem? (i := 782) (by decide +kernel)) rfl
theorem lcX7_greatestDivisor : f_LC mX7_greatestDivisor := ⟨tw782, tw46⟩
theorem hdX7_greatestDivisor : f_hd mX7_greatestDivisor 2 := ⟨⟨by decide +kernel, by decide +kernel, by decide +kernel⟩, by decide⟩
theorem tw780 : Cond.methodLink RX7 259 yX7_greatestDivisor ∈ tb := tb_in (List.mem_of_getElem? (i := 780) (by decide +kernel)) rfl
theorem tw781 : Cond.static yX7_greatestDivisor ∈ tb := tb_in (List.mem_of_getElem? (i := 781) (by decide +kernel)) rfl
theorem mlX7_259 : f_LS RX7 259 mX7_greatestDivisor 2 := ⟨lcX7_greatestDivisor, tw781, Or.inl tw780, hdX7_greatestDivisor⟩
abbrev mX7_year : f_Y := (yX7_year, cX7_year, 10, (some .int))
theorem tw786 : Cond.code yX7_year cX7_year 10 (some .int) ∈ tb := tb_in (List.mem_of_getElem? (i := 786) (by decide +kernel)) rfl
theorem lcX7_year : f_LC mX7_year := ⟨tw786, tw46⟩
theorem hdX7_year : f_hd mX7_year 3 := ⟨⟨by decide +kernel, by decide +kernel, by decide +kernel⟩, by decide⟩
theorem tw783 : Cond.methodLink RL 126 yX7_year ∈ tb := tb_in (List.mem_of_getElem? (i := 783) (by decide +kernel)) rfl
theorem tw784 : Cond.instanceMethod yX7_year ∈ tb := tb_in (List.mem_of_getElem? (i := 784) (by decide +kernel)) rfl
theorem tw785 : Cond.selects yX7_year.cls yX7_year yX7_year ∈ tb := tb_in (List.mem_of_getElem? (i := 785) (by decide +kernel)) rfl
theorem mlL_126 : f_LV RL 126 mX7_year 3 := ⟨lcX7_year, tw784, tw785, Or.inl tw783, hdX7_year⟩
abbrev mX7_drawnKind : f_Y := (yX7_drawnKind, cX7_drawnKind, 6, (some .int))
theorem tw790 : Cond.code yX7_drawnKind cX7_drawnKind 6 (some .int) ∈ tb := tb_in (List.mem_of_getElem? (i := 790) (by decide +kernel)) rfl
theorem lcX7_drawnKind : f_LC mX7_drawnKind := ⟨tw790, tw46⟩
theorem hdX7_drawnKind : f_hd mX7_drawnKind 2 := ⟨⟨by decide +kernel, by decide +kernel, by decide +kernel⟩, by decide⟩
theorem tw787 : Cond.methodLink RX7 262 yX7_drawnKind ∈ tb := tb_in (List.mem_of_getElem? (i := 787) (by decide +kernel)) rfl
theorem tw789 : Cond.instanceMethod yX7_drawnKind ∈ tb := tb_in (List.mem_of_getElem? (i := 789) (by decide +kernel)) rfl
theorem tw18 : Cond.selects yX7_drawnKind.cls yX7_drawnKind yX7_drawnKind ∈ tb := tb_in (List.mem_of_getElem? (i := 18) (by decide +kernel)) rfl
theorem mlX7_262 : f_LV RX7 262 mX7_drawnKind 2 := ⟨lcX7_drawnKind, tw789, tw18, Or.inl tw787, hdX7_drawnKind⟩
abbrev mX7_keep : f_Y := (yX7_keep, cX7_keep, 1, (some .int))
theorem tw798 : Cond.code yX7_keep cX7_keep 1 (some .int) ∈ tb := tb_in (List.mem_of_getElem? (i := 798) (by decide +kernel)) rfl
theorem lcX7_keep : f_LC mX7_keep := ⟨tw798, tw46⟩
theorem hdX7_keep : f_hd mX7_keep 0 := ⟨⟨by decide +kernel, by decide +kernel, by decide +kernel⟩, by decide⟩
theorem tw795 : Cond.methodLink RL 130 yX7_keep ∈ tb := tb_in (List.mem_of_getElem? (i := 795) (by decide +kernel)) rfl
theorem tw796 : Cond.instanceMethod yX7_keep ∈ tb := tb_in (List.mem_of_getElem? (i := 796) (by decide +kernel)) rfl
theorem tw797 : Cond.selects yX7_keep.cls yX7_keep yX7_keep ∈ tb := tb_in (List.mem_of_getElem? (i := 797) (by decide +kernel)) rfl
theorem mlL_130 : f_LV RL 130 mX7_keep 0 := ⟨lcX7_keep, tw796, tw797, Or.inl tw795, hdX7_keep⟩
theorem tw799 : Cond.methodLink RX7 268 yX6_isFull ∈ tb := tb_in (List.mem_of_getElem? (i := 799) (by decide +kernel)) rfl
theorem mlX7_268 : f_LV RX7 268 mX6_isFull 0 := ⟨lcX6_isFull, tw555, tw556, Or.inl tw799, hdX6_isFull⟩
abbrev mX7_back : f_Y := (yX7_back, cX7_back, 1, (some .int))
theorem tw803 : Cond.code yX7_back cX7_back 1 (some .int) ∈ tb := tb_in (List.mem_of_getElem? (i := 803) (by decide +kernel)) rfl
theorem lcX7_back : f_LC mX7_back := ⟨tw803, tw46⟩
theorem hdX7_back : f_hd mX7_back 0 := ⟨⟨by decide +kernel, by decide +kernel, by decide +kernel⟩, by decide⟩
theorem tw800 : Cond.methodLink RL 134 yX7_back ∈ tb := tb_in (List.mem_of_getElem? (i := 800) (by decide +kernel)) rfl
theorem tw801 : Cond.instanceMethod yX7_back ∈ tb := tb_in (List.mem_of_getElem? (i := 801) (by decide +kernel)) rfl
theorem tw802 : Cond.selects yX7_back.cls yX7_back yX7_back ∈ tb := tb_in (List.mem_of_getElem? (i := 802) (by decide +kernel)) rfl
theorem mlL_134 : f_LV RL 134 mX7_back 0 := ⟨lcX7_back, tw801, tw802, Or.inl tw800, hdX7_back⟩
abbrev mX7_count : f_Y := (yX7_count, cX7_count, 2, (some .int))
theorem tw807 : Cond.code yX7_count cX7_count 2 (some .int) ∈ tb := tb_in (List.mem_of_getElem? (i := 807) (by decide +kernel)) rfl
theorem lcX7_count : f_LC mX7_count := ⟨tw807, tw46⟩
theorem hdX7_count : f_hd mX7_count 1 := ⟨⟨by decide +kernel, by decide +kernel, by decide +kernel⟩, by decide⟩
theorem tw804 : Cond.methodLink RL 138 yX7_count ∈ tb := tb_in (List.mem_of_getElem? (i := 804) (by decide +kernel)) rfl
theorem tw805 : Cond.instanceMethod yX7_count ∈ tb := tb_in (List.mem_of_getElem? (i := 805) (by decide +kernel)) rfl
theorem tw806 : Cond.selects yX7_count.cls yX7_count yX7_count ∈ tb := tb_in (List.mem_of_getElem? (i := 806) (by decide +kernel)) rfl
theorem mlL_138 : f_LV RL 138 mX7_count 1 := ⟨lcX7_count, tw805, tw806, Or.inl tw804, hdX7_count⟩
abbrev mX8_tellKind : f_Y := (yX8_tellKind, cX8_tellKind, 6, none)
theorem tw817 : Cond.code yX8_tellKind cX8_tellKind 6 none ∈ tb := tb_in (List.mem_of_getElem? (i := 817) (by decide +kernel)) rfl
theorem tw60 : Cond.initialized RX8 ∈ tb := tb_in (List.mem_of_getElem? (i := 60) (by decide +kernel)) rfl
theorem lcX8_tellKind : f_LC mX8_tellKind := ⟨tw817, tw60⟩
theorem hdX8_tellKind : f_hd mX8_tellKind 5 := ⟨⟨by decide +kernel, by decide +kernel, by decide +kernel⟩, by decide⟩
theorem tw814 : Cond.methodLink RX8 67 yX8_tellKind ∈ tb := tb_in (List.mem_of_getElem? (i := 814) (by decide +kernel)) rfl
theorem tw816 : Cond.instanceMethod yX8_tellKind ∈ tb := tb_in (List.mem_of_getElem? (i := 816) (by decide +kernel)) rfl
theorem tw19 : Cond.selects yX8_tellKind.cls yX8_tellKind yX8_tellKind ∈ tb := tb_in (List.mem_of_getElem? (i := 19) (by decide +kernel)) rfl
theorem mlX8_67 : f_LV RX8 67 mX8_tellKind 5 := ⟨lcX8_tellKind, tw816, tw19, Or.inl tw814, hdX8_tellKind⟩
abbrev mX8_write : f_Y := (yX8_write, cX8_write, 2, (some .int))
theorem tw921 : Cond.code yX8_write cX8_write 2 (some .int) ∈ tb := tb_in (List.mem_of_getElem? (i := 921) (by decide +kernel)) rfl
theorem lcX8_write : f_LC mX8_write := ⟨tw921, tw60⟩
theorem hdX8_write : f_hd mX8_write 1 := ⟨⟨by decide +kernel, by decide +kernel, by decide +kernel⟩, by decide⟩
theorem tw918 : Cond.methodLink RL 17 yX8_write ∈ tb := tb_in (List.mem_of_getElem? (i := 918) (by decide +kernel)) rfl
theorem tw919 : Cond.instanceMethod yX8_write ∈ tb := tb_in (List.mem_of_getElem? (i := 919) (by decide +kernel)) rfl
theorem tw920 : Cond.selects yX8_write.cls yX8_write yX8_write ∈ tb := tb_in (List.mem_of_getElem? (i := 920) (by decide +kernel)) rfl
theorem mlL_17 : f_LV RL 17 mX8_write 1 := ⟨lcX8_write, tw919, tw920, Or.inl tw918, hdX8_write⟩
abbrev mX8_in : f_Y := (yX8_in, cX8_in, 6, (some .boolean))
theorem tw926 : Cond.code yX8_in cX8_in 6 (some .boolean) ∈ tb := tb_in (List.mem_of_getElem? (i := 926) (by decide +kernel)) rfl
theorem lcX8_in : f_LC mX8_in := ⟨tw926, tw60⟩
theorem hdX8_in : f_hd mX8_in 3 := ⟨⟨by decide +kernel, by decide +kernel, by decide +kernel⟩, by decide⟩
theorem tw924 : Cond.methodLink RX8 78 yX8_in ∈ tb := tb_in (List.mem_of_getElem? (i := 924) (by decide +kernel)) rfl
theorem tw925 : Cond.static yX8_in ∈ tb := tb_in (List.mem_of_getElem? (i := 925) (by decide +kernel)) rfl
theorem mlX8_78 : f_LS RX8 78 mX8_in 3 := ⟨lcX8_in, tw925, Or.inl tw924, hdX8_in⟩
abbrev mX8_wipe : f_Y := (yX8_wipe, cX8_wipe, 2, (some .int))
theorem tw930 : Cond.code yX8_wipe cX8_wipe 2 (some .int) ∈ tb := tb_in (List.mem_of_getElem? (i := 930) (by decide +kernel)) rfl
theorem lcX8_wipe : f_LC mX8_wipe := ⟨tw930, tw60⟩
theorem hdX8_wipe : f_hd mX8_wipe 0 := ⟨⟨by decide +kernel, by decide +kernel, by decide +kernel⟩, by decide⟩
theorem tw927 : Cond.methodLink RL 22 yX8_wipe ∈ tb := tb_in (List.mem_of_getElem? (i := 927) (by decide +kernel)) rfl
theorem tw928 : Cond.instanceMethod yX8_wipe ∈ tb := tb_in (List.mem_of_getElem? (i := 928) (by decide +kernel)) rfl
theorem tw929 : Cond.selects yX8_wipe.cls yX8_wipe yX8_wipe ∈ tb := tb_in (List.mem_of_getElem? (i := 929) (by decide +kernel)) rfl
theorem mlL_22 : f_LV RL 22 mX8_wipe 0 := ⟨lcX8_wipe, tw928, tw929, Or.inl tw927, hdX8_wipe⟩
abbrev mX8_fault : f_Y := (yX8_fault, cX8_fault, 2, (some .int))
theorem tw934 : Cond.code yX8_fault cX8_fault 2 (some .int) ∈ tb := tb_in (List.mem_of_getElem? (i := 934) (by decide +kernel)) rfl
theorem lcX8_fault : f_LC mX8_fault := ⟨tw934, tw60⟩
theorem hdX8_fault : f_hd mX8_fault 0 := ⟨⟨by decide +kernel, by decide +kernel, by decide +kernel⟩, by decide⟩
theorem tw931 : Cond.methodLink RL 26 yX8_fault ∈ tb := tb_in (List.mem_of_getElem? (i := 931) (by decide +kernel)) rfl
theorem tw932 : Cond.instanceMethod yX8_fault ∈ tb := tb_in (List.mem_of_getElem? (i := 932) (by decide +kernel)) rfl
theorem tw933 : Cond.selects yX8_fault.cls yX8_fault yX8_fault ∈ tb := tb_in (List.mem_of_getElem? (i := 933) (by decide +kernel)) rfl
theorem mlL_26 : f_LV RL 26 mX8_fault 0 := ⟨lcX8_fault, tw932, tw933, Or.inl tw931, hdX8_fault⟩
abbrev mX8_readItem : f_Y := (yX8_readItem, cX8_readItem, 4, (some .boolean))
theorem tw938 : Cond.code yX8_readItem cX8_readItem 4 (some .boolean) ∈ tb := tb_in (List.mem_of_getElem? (i := 938) (by decide +kernel)) rfl
theorem lcX8_readItem : f_LC mX8_readItem := ⟨tw938, tw60⟩
theorem hdX8_readItem : f_hd mX8_readItem 0 := ⟨⟨by decide +kernel, by decide +kernel, by decide +kernel⟩, by decide⟩
theorem tw935 : Cond.methodLink RX8 129 yX8_readItem ∈ tb := tb_in (List.mem_of_getElem? (i := 935) (by decide +kernel)) rfl
theorem tw937 : Cond.instanceMethod yX8_readItem ∈ tb := tb_in (List.mem_of_getElem? (i := 937) (by decide +kernel)) rfl
theorem tw20 : Cond.selects yX8_readItem.cls yX8_readItem yX8_readItem ∈ tb := tb_in (List.mem_of_getElem? (i := 20) (by decide +kernel)) rfl
theorem mlX8_129 : f_LV RX8 129 mX8_readItem 0 := ⟨lcX8_readItem, tw937, tw20, Or.inl tw935, hdX8_readItem⟩
abbrev mX8_readNumbers : f_Y := (yX8_readNumbers, cX8_readNumbers, 6, (some .boolean))
theorem tw942 : Cond.code yX8_readNumbers cX8_readNumbers 6 (some .boolean) ∈ tb := tb_in (List.mem_of_getElem? (i := 942) (by decide +kernel)) rfl
theorem lcX8_readNumbers : f_LC mX8_readNumbers := ⟨tw942, tw60⟩
theorem hdX8_readNumbers : f_hd mX8_readNumbers 1 := ⟨⟨by decide +kernel, by decide +kernel, by decide +kernel⟩, by decide⟩
theorem tw939 : Cond.methodLink RX8 113 yX8_readNumbers ∈ tb := tb_in (List.mem_of_getElem? (i := 939) (by decide +kernel)) rfl
theorem tw941 : Cond.instanceMethod yX8_readNumbers ∈ tb := tb_in (List.mem_of_getElem? (i := 941) (by decide +kernel)) rfl
theorem tw21 : Cond.selects yX8_readNumbers.cls yX8_readNumbers yX8_readNumbers ∈ tb := tb_in (List.mem_of_getElem? (i := 21) (by decide +kernel)) rfl
theorem mlX8_113 : f_LV RX8 113 mX8_readNumbers 1 := ⟨lcX8_readNumbers, tw941, tw21, Or.inl tw939, hdX8_readNumbers⟩
abbrev mX8_readKind : f_Y := (yX8_readKind, cX8_readKind, 3, (some .boolean))
theorem tw948 : Cond.code yX8_readKind cX8_readKind 3 (some .boolean) ∈ tb := tb_in (List.mem_of_getElem? (i := 948) (by decide +kernel)) rfl
theorem lcX8_readKind : f_LC mX8_readKind := ⟨tw948, tw60⟩
theorem hdX8_readKind : f_hd mX8_readKind 0 := ⟨⟨by decide +kernel, by decide +kernel, by decide +kernel⟩, by decide⟩
theorem tw945 : Cond.methodLink RX8 116 yX8_readKind ∈ tb := tb_in (List.mem_of_getElem? (i := 945) (by decide +kernel)) rfl
theorem tw947 : Cond.instanceMethod yX8_readKind ∈ tb := tb_in (List.mem_of_getElem? (i := 947) (by decide +kernel)) rfl
theorem tw22 : Cond.selects yX8_readKind.cls yX8_readKind yX8_readKind ∈ tb := tb_in (List.mem_of_getElem? (i := 22) (by decide +kernel)) rfl
theorem mlX8_116 : f_LV RX8 116 mX8_readKind 0 := ⟨lcX8_readKind, tw947, tw22, Or.inl tw945, hdX8_readKind⟩
abbrev mX8_isDoing : f_Y := (yX8_isDoing, cX8_isDoing, 1, (some .boolean))
theorem tw952 : Cond.code yX8_isDoing cX8_isDoing 1 (some .boolean) ∈ tb := tb_in (List.mem_of_getElem? (i := 952) (by decide +kernel)) rfl
theorem lcX8_isDoing : f_LC mX8_isDoing := ⟨tw952, tw60⟩
theorem hdX8_isDoing : f_hd mX8_isDoing 1 := ⟨⟨by decide +kernel, by decide +kernel, by decide +kernel⟩, by decide⟩
theorem tw950 : Cond.methodLink RX8 103 yX8_isDoing ∈ tb := tb_in (List.mem_of_getElem? (i := 950) (by decide +kernel)) rfl
theorem tw951 : Cond.static yX8_isDoing ∈ tb := tb_in (List.mem_of_getElem? (i := 951) (by decide +kernel)) rfl
theorem mlX8_103 : f_LS RX8 103 mX8_isDoing 1 := ⟨lcX8_isDoing, tw951, Or.inl tw950, hdX8_isDoing⟩
abbrev mX8_lay : f_Y := (yX8_lay, cX8_lay, 2, (some .int))
theorem tw960 : Cond.code yX8_lay cX8_lay 2 (some .int) ∈ tb := tb_in (List.mem_of_getElem? (i := 960) (by decide +kernel)) rfl
theorem lcX8_lay : f_LC mX8_lay := ⟨tw960, tw60⟩
theorem hdX8_lay : f_hd mX8_lay 0 := ⟨⟨by decide +kernel, by decide +kernel, by decide +kernel⟩, by decide⟩
theorem tw957 : Cond.methodLink RL 30 yX8_lay ∈ tb := tb_in (List.mem_of_getElem? (i := 957) (by decide +kernel)) rfl
theorem tw958 : Cond.instanceMethod yX8_lay ∈ tb := tb_in (List.mem_of_getElem? (i := 958) (by decide +kernel)) rfl
theorem tw959 : Cond.selects yX8_lay.cls yX8_lay yX8_lay ∈ tb := tb_in (List.mem_of_getElem? (i := 959) (by decide +kernel)) rfl
theorem mlL_30 : f_LV RL 30 mX8_lay 0 := ⟨lcX8_lay, tw958, tw959, Or.inl tw957, hdX8_lay⟩
theorem tw961 : Cond.methodLink RX8 132 yX8_fault ∈ tb := tb_in (List.mem_of_getElem? (i := 961) (by decide +kernel)) rfl
theorem mlX8_132 : f_LV RX8 132 mX8_fault 0 := ⟨lcX8_fault, tw932, tw933, Or.inl tw961, hdX8_fault⟩
abbrev mX8_kind : f_Y := (yX8_kind, cX8_kind, 3, (some .int))
theorem tw965 : Cond.code yX8_kind cX8_kind 3 (some .int) ∈ tb := tb_in (List.mem_of_getElem? (i := 965) (by decide +kernel)) rfl
theorem lcX8_kind : f_LC mX8_kind := ⟨tw965, tw60⟩
theorem hdX8_kind : f_hd mX8_kind 2 := ⟨⟨by decide +kernel, by decide +kernel, by decide +kernel⟩, by decide⟩
theorem tw962 : Cond.methodLink RL 35 yX8_kind ∈ tb := tb_in (List.mem_of_getElem? (i := 962) (by decide +kernel)) rfl
theorem tw963 : Cond.instanceMethod yX8_kind ∈ tb := tb_in (List.mem_of_getElem? (i := 963) (by decide +kernel)) rfl
theorem tw964 : Cond.selects yX8_kind.cls yX8_kind yX8_kind ∈ tb := tb_in (List.mem_of_getElem? (i := 964) (by decide +kernel)) rfl
theorem mlL_35 : f_LV RL 35 mX8_kind 2 := ⟨lcX8_kind, tw963, tw964, Or.inl tw962, hdX8_kind⟩
abbrev mX8_isKind : f_Y := (yX8_isKind, cX8_isKind, 2, (some .boolean))
theorem tw969 : Cond.code yX8_isKind cX8_isKind 2 (some .boolean) ∈ tb := tb_in (List.mem_of_getElem? (i := 969) (by decide +kernel)) rfl
theorem lcX8_isKind : f_LC mX8_isKind := ⟨tw969, tw60⟩
theorem hdX8_isKind : f_hd mX8_isKind 1 := ⟨⟨by decide +kernel, by decide +kernel, by decide +kernel⟩, by decide⟩
theorem tw966 : Cond.methodLink RX8 151 yX8_isKind ∈ tb := tb_in (List.mem_of_getElem? (i := 966) (by decide +kernel)) rfl
theorem tw968 : Cond.instanceMethod yX8_isKind ∈ tb := tb_in (List.mem_of_getElem? (i := 968) (by decide +kernel)) rfl
theorem tw23 : Cond.selects yX8_isKind.cls yX8_isKind yX8_isKind ∈ tb := tb_in (List.mem_of_getElem? (i := 23) (by decide +kernel)) rfl
theorem mlX8_151 : f_LV RX8 151 mX8_isKind 1 := ⟨lcX8_isKind, tw968, tw23, Or.inl tw966, hdX8_isKind⟩
abbrev mX8_errand : f_Y := (yX8_errand, cX8_errand, 2, (some .int))
theorem tw973 : Cond.code yX8_errand cX8_errand 2 (some .int) ∈ tb := tb_in (List.mem_of_getElem? (i := 973) (by decide +kernel)) rfl
theorem lcX8_errand : f_LC mX8_errand := ⟨tw973, tw60⟩
theorem hdX8_errand : f_hd mX8_errand 1 := ⟨⟨by decide +kernel, by decide +kernel, by decide +kernel⟩, by decide⟩
theorem tw970 : Cond.methodLink RL 39 yX8_errand ∈ tb := tb_in (List.mem_of_getElem? (i := 970) (by decide +kernel)) rfl
theorem tw971 : Cond.instanceMethod yX8_errand ∈ tb := tb_in (List.mem_of_getElem? (i := 971) (by decide +kernel)) rfl
theorem tw972 : Cond.selects yX8_errand.cls yX8_errand yX8_errand ∈ tb := tb_in (List.mem_of_getElem? (i := 972) (by decide +kernel)) rfl
theorem mlL_39 : f_LV RL 39 mX8_errand 1 := ⟨lcX8_errand, tw971, tw972, Or.inl tw970, hdX8_errand⟩
abbrev mX8_word : f_Y := (yX8_word, cX8_word, 2, (some .int))
theorem tw977 : Cond.code yX8_word cX8_word 2 (some .int) ∈ tb := tb_in (List.mem_of_getElem? (i := 977) (by decide +kernel)) rfl
theorem lcX8_word : f_LC mX8_word := ⟨tw977, tw60⟩
theorem hdX8_word : f_hd mX8_word 1 := ⟨⟨by decide +kernel, by decide +kernel, by decide +kernel⟩, by decide⟩
theorem tw974 : Cond.methodLink RL 43 yX8_word ∈ tb := tb_in (List.mem_of_getElem? (i := 974) (by decide +kernel)) rfl
theorem tw975 : Cond.instanceMethod yX8_word ∈ tb := tb_in (List.mem_of_getElem? (i := 975) (by decide +kernel)) rfl
theorem tw976 : Cond.selects yX8_word.cls yX8_word yX8_word ∈ tb := tb_in (List.mem_of_getElem? (i := 976) (by decide +kernel)) rfl
theorem mlL_43 : f_LV RL 43 mX8_word 1 := ⟨lcX8_word, tw975, tw976, Or.inl tw974, hdX8_word⟩
abbrev mX8_unlike : f_Y := (yX8_unlike, cX8_unlike, 3, (some .int))
theorem tw981 : Cond.code yX8_unlike cX8_unlike 3 (some .int) ∈ tb := tb_in (List.mem_of_getElem? (i := 981) (by decide +kernel)) rfl
theorem lcX8_unlike : f_LC mX8_unlike := ⟨tw981, tw60⟩
theorem hdX8_unlike : f_hd mX8_unlike 2 := ⟨⟨by decide +kernel, by decide +kernel, by decide +kernel⟩, by decide⟩
theorem tw978 : Cond.methodLink RL 47 yX8_unlike ∈ tb := tb_in (List.mem_of_getElem? (i := 978) (by decide +kernel)) rfl
theorem tw979 : Cond.instanceMethod yX8_unlike ∈ tb := tb_in (List.mem_of_getElem? (i := 979) (by decide +kernel)) rfl
theorem tw980 : Cond.selects yX8_unlike.cls yX8_unlike yX8_unlike ∈ tb := tb_in (List.mem_of_getElem? (i := 980) (by decide +kernel)) rfl
theorem mlL_47 : f_LV RL 47 mX8_unlike 2 := ⟨lcX8_unlike, tw979, tw980, Or.inl tw978, hdX8_unlike⟩
abbrev mX8_unlikeOf : f_Y := (yX8_unlikeOf, cX8_unlikeOf, 3, (some .int))
theorem tw985 : Cond.code yX8_unlikeOf cX8_unlikeOf 3 (some .int) ∈ tb := tb_in (List.mem_of_getElem? (i := 985) (by decide +kernel)) rfl
theorem lcX8_unlikeOf : f_LC mX8_unlikeOf := ⟨tw985, tw60⟩
theorem hdX8_unlikeOf : f_hd mX8_unlikeOf 2 := ⟨⟨by decide +kernel, by decide +kernel, by decide +kernel⟩, by decide⟩
theorem tw982 : Cond.methodLink RX8 158 yX8_unlikeOf ∈ tb := tb_in (List.mem_of_getElem? (i := 982) (by decide +kernel)) rfl
theorem tw984 : Cond.instanceMethod yX8_unlikeOf ∈ tb := tb_in (List.mem_of_getElem? (i := 984) (by decide +kernel)) rfl
theorem tw24 : Cond.selects yX8_unlikeOf.cls yX8_unlikeOf yX8_unlikeOf ∈ tb := tb_in (List.mem_of_getElem? (i := 24) (by decide +kernel)) rfl
theorem mlX8_158 : f_LV RX8 158 mX8_unlikeOf 2 := ⟨lcX8_unlikeOf, tw984, tw24, Or.inl tw982, hdX8_unlikeOf⟩
abbrev mX8_ones : f_Y := (yX8_ones, cX8_ones, 3, (some .int))
theorem tw988 : Cond.code yX8_ones cX8_ones 3 (some .int) ∈ tb := tb_in (List.mem_of_getElem? (i := 988) (by decide +kernel)) rfl
theorem lcX8_ones : f_LC mX8_ones := ⟨tw988, tw60⟩
theorem hdX8_ones : f_hd mX8_ones 1 := ⟨⟨by decide +kernel, by decide +kernel, by decide +kernel⟩, by decide⟩
theorem tw986 : Cond.methodLink RX8 154 yX8_ones ∈ tb := tb_in (List.mem_of_getElem? (i := 986) (by decide +kernel)) rfl
theorem tw987 : Cond.static yX8_ones ∈ tb := tb_in (List.mem_of_getElem? (i := 987) (by decide +kernel)) rfl
theorem mlX8_154 : f_LS RX8 154 mX8_ones 1 := ⟨lcX8_ones, tw987, Or.inl tw986, hdX8_ones⟩
abbrev mX8_does : f_Y := (yX8_does, cX8_does, 3, (some .int))
theorem tw992 : Cond.code yX8_does cX8_does 3 (some .int) ∈ tb := tb_in (List.mem_of_getElem? (i := 992) (by decide +kernel)) rfl
theorem lcX8_does : f_LC mX8_does := ⟨tw992, tw60⟩
theorem hdX8_does : f_hd mX8_does 2 := ⟨⟨by decide +kernel, by decide +kernel, by decide +kernel⟩, by decide⟩
theorem tw989 : Cond.methodLink RL 51 yX8_does ∈ tb := tb_in (List.mem_of_getElem? (i := 989) (by decide +kernel)) rfl
theorem tw990 : Cond.instanceMethod yX8_does ∈ tb := tb_in (List.mem_of_getElem? (i := 990) (by decide +kernel)) rfl
theorem tw991 : Cond.selects yX8_does.cls yX8_does yX8_does ∈ tb := tb_in (List.mem_of_getElem? (i := 991) (by decide +kernel)) rfl
theorem mlL_51 : f_LV RL 51 mX8_does 2 := ⟨lcX8_does, tw990, tw991, Or.inl tw989, hdX8_does⟩
abbrev mX8_doesBy : f_Y := (yX8_doesBy, cX8_doesBy, 9, (some .int))
theorem tw997 : Cond.code yX8_doesBy cX8_doesBy 9 (some .int) ∈ tb := tb_in (List.mem_of_getElem? (i := 997) (by decide +kernel)) rfl
theorem lcX8_doesBy : f_LC mX8_doesBy := ⟨tw997, tw60⟩
theorem hdX8_doesBy : f_hd mX8_doesBy 3 := ⟨⟨by decide +kernel, by decide +kernel, by decide +kernel⟩, by decide⟩
theorem tw994 : Cond.methodLink RX8 166 yX8_doesBy ∈ tb := tb_in (List.mem_of_getElem? (i := 994) (by decide +kernel)) rfl
theorem tw996 : Cond.instanceMethod yX8_doesBy ∈ tb := tb_in (List.mem_of_getElem? (i := 996) (by decide +kernel)) rfl
theorem tw25 : Cond.selects yX8_doesBy.cls yX8_doesBy yX8_doesBy ∈ tb := tb_in (List.mem_of_getElem? (i := 25) (by decide +kernel)) rfl
theorem mlX8_166 : f_LV RX8 166 mX8_doesBy 3 := ⟨lcX8_doesBy, tw996, tw25, Or.inl tw994, hdX8_doesBy⟩
abbrev mX8_hand : f_Y := (yX8_hand, cX8_hand, 2, (some .int))
theorem tw1001 : Cond.code yX8_hand cX8_hand 2 (some .int) ∈ tb := tb_in (List.mem_of_getElem? (i := 1001) (by decide +kernel)) rfl
theorem lcX8_hand : f_LC mX8_hand := ⟨tw1001, tw60⟩
theorem hdX8_hand : f_hd mX8_hand 1 := ⟨⟨by decide +kernel, by decide +kernel, by decide +kernel⟩, by decide⟩
theorem tw998 : Cond.methodLink RL 55 yX8_hand ∈ tb := tb_in (List.mem_of_getElem? (i := 998) (by decide +kernel)) rfl
theorem tw999 : Cond.instanceMethod yX8_hand ∈ tb := tb_in (List.mem_of_getElem? (i := 999) (by decide +kernel)) rfl
theorem tw1000 : Cond.selects yX8_hand.cls yX8_hand yX8_hand ∈ tb := tb_in (List.mem_of_getElem? (i := 1000) (by decide +kernel)) rfl
theorem mlL_55 : f_LV RL 55 mX8_hand 1 := ⟨lcX8_hand, tw999, tw1000, Or.inl tw998, hdX8_hand⟩
abbrev mX8_note : f_Y := (yX8_note, cX8_note, 2, none)
theorem tw1005 : Cond.code yX8_note cX8_note 2 none ∈ tb := tb_in (List.mem_of_getElem? (i := 1005) (by decide +kernel)) rfl
theorem lcX8_note : f_LC mX8_note := ⟨tw1005, tw60⟩
theorem hdX8_note : f_hd mX8_note 0 := ⟨⟨by decide +kernel, by decide +kernel, by decide +kernel⟩, by decide⟩
theorem tw1002 : Cond.methodLink RX8 182 yX8_note ∈ tb := tb_in (List.mem_of_getElem? (i := 1002) (by decide +kernel)) rfl
theorem tw1004 : Cond.instanceMethod yX8_note ∈ tb := tb_in (List.mem_of_getElem? (i := 1004) (by decide +kernel)) rfl
theorem tw26 : Cond.selects yX8_note.cls yX8_note yX8_note ∈ tb := tb_in (List.mem_of_getElem? (i := 26) (by decide +kernel)) rfl
theorem mlX8_182 : f_LV RX8 182 mX8_note 0 := ⟨lcX8_note, tw1004, tw26, Or.inl tw1002, hdX8_note⟩
abbrev mX8_day : f_Y := (yX8_day, cX8_day, 5, (some .int))
theorem tw1009 : Cond.code yX8_day cX8_day 5 (some .int) ∈ tb := tb_in (List.mem_of_getElem? (i := 1009) (by decide +kernel)) rfl
theorem lcX8_day : f_LC mX8_day := ⟨tw1009, tw60⟩
theorem hdX8_day : f_hd mX8_day 3 := ⟨⟨by decide +kernel, by decide +kernel, by decide +kernel⟩, by decide⟩
theorem tw1006 : Cond.methodLink RX8 185 yX8_day ∈ tb := tb_in (List.mem_of_getElem? (i := 1006) (by decide +kernel)) rfl
theorem tw1008 : Cond.instanceMethod yX8_day ∈ tb := tb_in (List.mem_of_getElem? (i := 1008) (by decide +kernel)) rfl
theorem tw27 : Cond.selects yX8_day.cls yX8_day yX8_day ∈ tb := tb_in (List.mem_of_getElem? (i := 27) (by decide +kernel)) rfl
theorem mlX8_185 : f_LV RX8 185 mX8_day 3 := ⟨lcX8_day, tw1008, tw27, Or.inl tw1006, hdX8_day⟩
abbrev mX8_goes : f_Y := (yX8_goes, cX8_goes, 3, (some .int))
theorem tw1013 : Cond.code yX8_goes cX8_goes 3 (some .int) ∈ tb := tb_in (List.mem_of_getElem? (i := 1013) (by decide +kernel)) rfl
theorem lcX8_goes : f_LC mX8_goes := ⟨tw1013, tw60⟩
theorem hdX8_goes : f_hd mX8_goes 2 := ⟨⟨by decide +kernel, by decide +kernel, by decide +kernel⟩, by decide⟩
theorem tw1010 : Cond.methodLink RX8 173 yX8_goes ∈ tb := tb_in (List.mem_of_getElem? (i := 1010) (by decide +kernel)) rfl
theorem tw1012 : Cond.instanceMethod yX8_goes ∈ tb := tb_in (List.mem_of_getElem? (i := 1012) (by decide +kernel)) rfl
theorem tw28 : Cond.selects yX8_goes.cls yX8_goes yX8_goes ∈ tb := tb_in (List.mem_of_getElem? (i := 28) (by decide +kernel)) rfl
theorem mlX8_173 : f_LV RX8 173 mX8_goes 2 := ⟨lcX8_goes, tw1012, tw28, Or.inl tw1010, hdX8_goes⟩
abbrev mX8_has : f_Y := (yX8_has, cX8_has, 2, (some .boolean))
theorem tw1016 : Cond.code yX8_has cX8_has 2 (some .boolean) ∈ tb := tb_in (List.mem_of_getElem? (i := 1016) (by decide +kernel)) rfl
theorem lcX8_has : f_LC mX8_has := ⟨tw1016, tw60⟩
theorem hdX8_has : f_hd mX8_has 2 := ⟨⟨by decide +kernel, by decide +kernel, by decide +kernel⟩, by decide⟩
theorem tw1014 : Cond.methodLink RX8 162 yX8_has ∈ tb := tb_in (List.mem_of_getElem? (i := 1014) (by decide +kernel)) rfl
theorem tw1015 : Cond.static yX8_has ∈ tb := tb_in (List.mem_of_getElem? (i := 1015) (by decide +kernel)) rfl
theorem mlX8_162 : f_LS RX8 162 mX8_has 2 := ⟨lcX8_has, tw1015, Or.inl tw1014, hdX8_has⟩
abbrev mX8_hear : f_Y := (yX8_hear, cX8_hear, 4, none)
theorem tw1020 : Cond.code yX8_hear cX8_hear 4 none ∈ tb := tb_in (List.mem_of_getElem? (i := 1020) (by decide +kernel)) rfl
theorem lcX8_hear : f_LC mX8_hear := ⟨tw1020, tw60⟩
theorem hdX8_hear : f_hd mX8_hear 2 := ⟨⟨by decide +kernel, by decide +kernel, by decide +kernel⟩, by decide⟩
theorem tw1017 : Cond.methodLink RX8 176 yX8_hear ∈ tb := tb_in (List.mem_of_getElem? (i := 1017) (by decide +kernel)) rfl
theorem tw1019 : Cond.instanceMethod yX8_hear ∈ tb := tb_in (List.mem_of_getElem? (i := 1019) (by decide +kernel)) rfl
theorem tw29 : Cond.selects yX8_hear.cls yX8_hear yX8_hear ∈ tb := tb_in (List.mem_of_getElem? (i := 29) (by decide +kernel)) rfl
theorem mlX8_176 : f_LV RX8 176 mX8_hear 2 := ⟨lcX8_hear, tw1019, tw29, Or.inl tw1017, hdX8_hear⟩
abbrev mX8_teach : f_Y := (yX8_teach, cX8_teach, 3, (some .int))
theorem tw1024 : Cond.code yX8_teach cX8_teach 3 (some .int) ∈ tb := tb_in (List.mem_of_getElem? (i := 1024) (by decide +kernel)) rfl
theorem lcX8_teach : f_LC mX8_teach := ⟨tw1024, tw60⟩
theorem hdX8_teach : f_hd mX8_teach 2 := ⟨⟨by decide +kernel, by decide +kernel, by decide +kernel⟩, by decide⟩
theorem tw1021 : Cond.methodLink RL 59 yX8_teach ∈ tb := tb_in (List.mem_of_getElem? (i := 1021) (by decide +kernel)) rfl
theorem tw1022 : Cond.instanceMethod yX8_teach ∈ tb := tb_in (List.mem_of_getElem? (i := 1022) (by decide +kernel)) rfl
theorem tw1023 : Cond.selects yX8_teach.cls yX8_teach yX8_teach ∈ tb := tb_in (List.mem_of_getElem? (i := 1023) (by decide +kernel)) rfl
theorem mlL_59 : f_LV RL 59 mX8_teach 2 := ⟨lcX8_teach, tw1022, tw1023, Or.inl tw1021, hdX8_teach⟩
abbrev mX8_undo : f_Y := (yX8_undo, cX8_undo, 2, (some .int))
theorem tw1028 : Cond.code yX8_undo cX8_undo 2 (some .int) ∈ tb := tb_in (List.mem_of_getElem? (i := 1028) (by decide +kernel)) rfl
theorem lcX8_undo : f_LC mX8_undo := ⟨tw1028, tw60⟩
theorem hdX8_undo : f_hd mX8_undo 0 := ⟨⟨by decide +kernel, by decide +kernel, by decide +kernel⟩, by decide⟩
theorem tw1025 : Cond.methodLink RL 63 yX8_undo ∈ tb := tb_in (List.mem_of_getElem? (i := 1025) (by decide +kernel)) rfl
theorem tw1026 : Cond.instanceMethod yX8_undo ∈ tb := tb_in (List.mem_of_getElem? (i := 1026) (by decide +kernel)) rfl
theorem tw1027 : Cond.selects yX8_undo.cls yX8_undo yX8_undo ∈ tb := tb_in (List.mem_of_getElem? (i := 1027) (by decide +kernel)) rfl
theorem mlL_63 : f_LV RL 63 mX8_undo 0 := ⟨lcX8_undo, tw1026, tw1027, Or.inl tw1025, hdX8_undo⟩
abbrev mX8_tell : f_Y := (yX8_tell, cX8_tell, 2, (some .int))
theorem tw1032 : Cond.code yX8_tell cX8_tell 2 (some .int) ∈ tb := tb_in (List.mem_of_getElem? (i := 1032) (by decide +kernel)) rfl
theorem lcX8_tell : f_LC mX8_tell := ⟨tw1032, tw60⟩
theorem hdX8_tell : f_hd mX8_tell 1 := ⟨⟨by decide +kernel, by decide +kernel, by decide +kernel⟩, by decide⟩
theorem tw1029 : Cond.methodLink RL 67 yX8_tell ∈ tb := tb_in (List.mem_of_getElem? (i := 1029) (by decide +kernel)) rfl
theorem tw1030 : Cond.instanceMethod yX8_tell ∈ tb := tb_in (List.mem_of_getElem? (i := 1030) (by decide +kernel)) rfl
theorem tw1031 : Cond.selects yX8_tell.cls yX8_tell yX8_tell ∈ tb := tb_in (List.mem_of_getElem? (i := 1031) (by decide +kernel)) rfl
theorem mlL_67 : f_LV RL 67 mX8_tell 1 := ⟨lcX8_tell, tw1030, tw1031, Or.inl tw1029, hdX8_tell⟩
abbrev mX8_noRow : f_Y := (yX8_noRow, cX8_noRow, 2, (some .int))
theorem tw1036 : Cond.code yX8_noRow cX8_noRow 2 (some .int) ∈ tb := tb_in (List.mem_of_getElem? (i := 1036) (by decide +kernel)) rfl
theorem lcX8_noRow : f_LC mX8_noRow := ⟨tw1036, tw60⟩
theorem hdX8_noRow : f_hd mX8_noRow 0 := ⟨⟨by decide +kernel, by decide +kernel, by decide +kernel⟩, by decide⟩
theorem tw1033 : Cond.methodLink RL 71 yX8_noRow ∈ tb := tb_in (List.mem_of_getElem? (i := 1033) (by decide +kernel)) rfl
theorem tw1034 : Cond.instanceMethod yX8_noRow ∈ tb := tb_in (List.mem_of_getElem? (i := 1034) (by decide +kernel)) rfl
theorem tw1035 : Cond.selects yX8_noRow.cls yX8_noRow yX8_noRow ∈ tb := tb_in (List.mem_of_getElem? (i := 1035) (by decide +kernel)) rfl
theorem mlL_71 : f_LV RL 71 mX8_noRow 0 := ⟨lcX8_noRow, tw1034, tw1035, Or.inl tw1033, hdX8_noRow⟩
abbrev mX8_run : f_Y := (yX8_run, cX8_run, 7, (some .int))
theorem tw1040 : Cond.code yX8_run cX8_run 7 (some .int) ∈ tb := tb_in (List.mem_of_getElem? (i := 1040) (by decide +kernel)) rfl
theorem lcX8_run : f_LC mX8_run := ⟨tw1040, tw60⟩
theorem hdX8_run : f_hd mX8_run 3 := ⟨⟨by decide +kernel, by decide +kernel, by decide +kernel⟩, by decide⟩
theorem tw1037 : Cond.methodLink RL 76 yX8_run ∈ tb := tb_in (List.mem_of_getElem? (i := 1037) (by decide +kernel)) rfl
theorem tw1038 : Cond.instanceMethod yX8_run ∈ tb := tb_in (List.mem_of_getElem? (i := 1038) (by decide +kernel)) rfl
theorem tw1039 : Cond.selects yX8_run.cls yX8_run yX8_run ∈ tb := tb_in (List.mem_of_getElem? (i := 1039) (by decide +kernel)) rfl
theorem mlL_76 : f_LV RL 76 mX8_run 3 := ⟨lcX8_run, tw1038, tw1039, Or.inl tw1037, hdX8_run⟩
abbrev mX8_tryRow : f_Y := (yX8_tryRow, cX8_tryRow, 3, (some .int))
theorem tw1045 : Cond.code yX8_tryRow cX8_tryRow 3 (some .int) ∈ tb := tb_in (List.mem_of_getElem? (i := 1045) (by decide +kernel)) rfl
theorem lcX8_tryRow : f_LC mX8_tryRow := ⟨tw1045, tw60⟩
theorem hdX8_tryRow : f_hd mX8_tryRow 1 := ⟨⟨by decide +kernel, by decide +kernel, by decide +kernel⟩, by decide⟩
theorem tw1042 : Cond.methodLink RX8 199 yX8_tryRow ∈ tb := tb_in (List.mem_of_getElem? (i := 1042) (by decide +kernel)) rfl
theorem tw1044 : Cond.instanceMethod yX8_tryRow ∈ tb := tb_in (List.mem_of_getElem? (i := 1044) (by decide +kernel)) rfl
theorem tw30 : Cond.selects yX8_tryRow.cls yX8_tryRow yX8_tryRow ∈ tb := tb_in (List.mem_of_getElem? (i := 30) (by decide +kernel)) rfl
theorem mlX8_199 : f_LV RX8 199 mX8_tryRow 1 := ⟨lcX8_tryRow, tw1044, tw30, Or.inl tw1042, hdX8_tryRow⟩
abbrev mX8_putAside : f_Y := (yX8_putAside, cX8_putAside, 2, none)
theorem tw1049 : Cond.code yX8_putAside cX8_putAside 2 none ∈ tb := tb_in (List.mem_of_getElem? (i := 1049) (by decide +kernel)) rfl
theorem lcX8_putAside : f_LC mX8_putAside := ⟨tw1049, tw60⟩
theorem hdX8_putAside : f_hd mX8_putAside 0 := ⟨⟨by decide +kernel, by decide +kernel, by decide +kernel⟩, by decide⟩
theorem tw1046 : Cond.methodLink RX8 188 yX8_putAside ∈ tb := tb_in (List.mem_of_getElem? (i := 1046) (by decide +kernel)) rfl
theorem tw1048 : Cond.instanceMethod yX8_putAside ∈ tb := tb_in (List.mem_of_getElem? (i := 1048) (by decide +kernel)) rfl
theorem tw31 : Cond.selects yX8_putAside.cls yX8_putAside yX8_putAside ∈ tb := tb_in (List.mem_of_getElem? (i := 31) (by decide +kernel)) rfl
theorem mlX8_188 : f_LV RX8 188 mX8_putAside 0 := ⟨lcX8_putAside, tw1048, tw31, Or.inl tw1046, hdX8_putAside⟩
abbrev mX8_runRow : f_Y := (yX8_runRow, cX8_runRow, 5, (some .int))
theorem tw1053 : Cond.code yX8_runRow cX8_runRow 5 (some .int) ∈ tb := tb_in (List.mem_of_getElem? (i := 1053) (by decide +kernel)) rfl
theorem lcX8_runRow : f_LC mX8_runRow := ⟨tw1053, tw60⟩
theorem hdX8_runRow : f_hd mX8_runRow 2 := ⟨⟨by decide +kernel, by decide +kernel, by decide +kernel⟩, by decide⟩
theorem tw1050 : Cond.methodLink RX8 191 yX8_runRow ∈ tb := tb_in (List.mem_of_getElem? (i := 1050) (by decide +kernel)) rfl
theorem tw1052 : Cond.instanceMethod yX8_runRow ∈ tb := tb_in (List.mem_of_getElem? (i := 1052) (by decide +kernel)) rfl
theorem tw32 : Cond.selects yX8_runRow.cls yX8_runRow yX8_runRow ∈ tb := tb_in (List.mem_of_getElem? (i := 32) (by decide +kernel)) rfl
theorem mlX8_191 : f_LV RX8 191 mX8_runRow 2 := ⟨lcX8_runRow, tw1052, tw32, Or.inl tw1050, hdX8_runRow⟩
abbrev mX8_takeBack : f_Y := (yX8_takeBack, cX8_takeBack, 2, none)
theorem tw1057 : Cond.code yX8_takeBack cX8_takeBack 2 none ∈ tb := tb_in (List.mem_of_getElem? (i := 1057) (by decide +kernel)) rfl
theorem lcX8_takeBack : f_LC mX8_takeBack := ⟨tw1057, tw60⟩
theorem hdX8_takeBack : f_hd mX8_takeBack 0 := ⟨⟨by decide +kernel, by decide +kernel, by decide +kernel⟩, by decide⟩
theorem tw1054 : Cond.methodLink RX8 194 yX8_takeBack ∈ tb := tb_in (List.mem_of_getElem? (i := 1054) (by decide +kernel)) rfl
theorem tw1056 : Cond.instanceMethod yX8_takeBack ∈ tb := tb_in (List.mem_of_getElem? (i := 1056) (by decide +kernel)) rfl
theorem tw33 : Cond.selects yX8_takeBack.cls yX8_takeBack yX8_takeBack ∈ tb := tb_in (List.mem_of_getElem? (i := 33) (by decide +kernel)) rfl
theorem mlX8_194 : f_LV RX8 194 mX8_takeBack 0 := ⟨lcX8_takeBack, tw1056, tw33, Or.inl tw1054, hdX8_takeBack⟩
abbrev mX8_round : f_Y := (yX8_round, cX8_round, 3, (some .int))
theorem tw1061 : Cond.code yX8_round cX8_round 3 (some .int) ∈ tb := tb_in (List.mem_of_getElem? (i := 1061) (by decide +kernel)) rfl
theorem lcX8_round : f_LC mX8_round := ⟨tw1061, tw60⟩
theorem hdX8_round : f_hd mX8_round 0 := ⟨⟨by decide +kernel, by decide +kernel, by decide +kernel⟩, by decide⟩
theorem tw1058 : Cond.methodLink RL 80 yX8_round ∈ tb := tb_in (List.mem_of_getElem? (i := 1058) (by decide +kernel)) rfl
theorem tw1059 : Cond.instanceMethod yX8_round ∈ tb := tb_in (List.mem_of_getElem? (i := 1059) (by decide +kernel)) rfl
theorem tw1060 : Cond.selects yX8_round.cls yX8_round yX8_round ∈ tb := tb_in (List.mem_of_getElem? (i := 1060) (by decide +kernel)) rfl
theorem mlL_80 : f_LV RL 80 mX8_round 0 := ⟨lcX8_round, tw1059, tw1060, Or.inl tw1058, hdX8_round⟩
abbrev mX8_isRound : f_Y := (yX8_isRound, cX8_isRound, 5, (some .boolean))
theorem tw1065 : Cond.code yX8_isRound cX8_isRound 5 (some .boolean) ∈ tb := tb_in (List.mem_of_getElem? (i := 1065) (by decide +kernel)) rfl
theorem lcX8_isRound : f_LC mX8_isRound := ⟨tw1065, tw60⟩
theorem hdX8_isRound : f_hd mX8_isRound 1 := ⟨⟨by decide +kernel, by decide +kernel, by decide +kernel⟩, by decide⟩
theorem tw1062 : Cond.methodLink RX8 202 yX8_isRound ∈ tb := tb_in (List.mem_of_getElem? (i := 1062) (by decide +kernel)) rfl
theorem tw1064 : Cond.instanceMethod yX8_isRound ∈ tb := tb_in (List.mem_of_getElem? (i := 1064) (by decide +kernel)) rfl
theorem tw34 : Cond.selects yX8_isRound.cls yX8_isRound yX8_isRound ∈ tb := tb_in (List.mem_of_getElem? (i := 34) (by decide +kernel)) rfl
theorem mlX8_202 : f_LV RX8 202 mX8_isRound 1 := ⟨lcX8_isRound, tw1064, tw34, Or.inl tw1062, hdX8_isRound⟩
abbrev mX8_order : f_Y := (yX8_order, cX8_order, 7, (some .int))
theorem tw1069 : Cond.code yX8_order cX8_order 7 (some .int) ∈ tb := tb_in (List.mem_of_getElem? (i := 1069) (by decide +kernel)) rfl
theorem lcX8_order : f_LC mX8_order := ⟨tw1069, tw60⟩
theorem hdX8_order : f_hd mX8_order 1 := ⟨⟨by decide +kernel, by decide +kernel, by decide +kernel⟩, by decide⟩
theorem tw1066 : Cond.methodLink RL 84 yX8_order ∈ tb := tb_in (List.mem_of_getElem? (i := 1066) (by decide +kernel)) rfl
theorem tw1067 : Cond.instanceMethod yX8_order ∈ tb := tb_in (List.mem_of_getElem? (i := 1067) (by decide +kernel)) rfl
theorem tw1068 : Cond.selects yX8_order.cls yX8_order yX8_order ∈ tb := tb_in (List.mem_of_getElem? (i := 1068) (by decide +kernel)) rfl
theorem mlL_84 : f_LV RL 84 mX8_order 1 := ⟨lcX8_order, tw1067, tw1068, Or.inl tw1066, hdX8_order⟩
abbrev mX8_exchange : f_Y := (yX8_exchange, cX8_exchange, 4, none)
theorem tw1073 : Cond.code yX8_exchange cX8_exchange 4 none ∈ tb := tb_in (List.mem_of_getElem? (i := 1073) (by decide +kernel)) rfl
theorem lcX8_exchange : f_LC mX8_exchange := ⟨tw1073, tw60⟩
theorem hdX8_exchange : f_hd mX8_exchange 2 := ⟨⟨by decide +kernel, by decide +kernel, by decide +kernel⟩, by decide⟩
theorem tw1070 : Cond.methodLink RX8 205 yX8_exchange ∈ tb := tb_in (List.mem_of_getElem? (i := 1070) (by decide +kernel)) rfl
theorem tw1072 : Cond.instanceMethod yX8_exchange ∈ tb := tb_in (List.mem_of_getElem? (i := 1072) (by decide +kernel)) rfl
theorem tw35 : Cond.selects yX8_exchange.cls yX8_exchange yX8_exchange ∈ tb := tb_in (List.mem_of_getElem? (i := 35) (by decide +kernel)) rfl
theorem mlX8_205 : f_LV RX8 205 mX8_exchange 2 := ⟨lcX8_exchange, tw1072, tw35, Or.inl tw1070, hdX8_exchange⟩
abbrev mX8_nextRow : f_Y := (yX8_nextRow, cX8_nextRow, 5, (some .boolean))
theorem tw1077 : Cond.code yX8_nextRow cX8_nextRow 5 (some .boolean) ∈ tb := tb_in (List.mem_of_getElem? (i := 1077) (by decide +kernel)) rfl
theorem lcX8_nextRow : f_LC mX8_nextRow := ⟨tw1077, tw60⟩
theorem hdX8_nextRow : f_hd mX8_nextRow 0 := ⟨⟨by decide +kernel, by decide +kernel, by decide +kernel⟩, by decide⟩
theorem tw1074 : Cond.methodLink RX8 208 yX8_nextRow ∈ tb := tb_in (List.mem_of_getElem? (i := 1074) (by decide +kernel)) rfl
theorem tw1076 : Cond.instanceMethod yX8_nextRow ∈ tb := tb_in (List.mem_of_getElem? (i := 1076) (by decide +kernel)) rfl
theorem tw36 : Cond.selects yX8_nextRow.cls yX8_nextRow yX8_nextRow ∈ tb := tb_in (List.mem_of_getElem? (i := 36) (by decide +kernel)) rfl
theorem mlX8_208 : f_LV RX8 208 mX8_nextRow 0 := ⟨lcX8_nextRow, tw1076, tw36, Or.inl tw1074, hdX8_nextRow⟩
abbrev mX8_best : f_Y := (yX8_best, cX8_best, 6, (some .int))
theorem tw1081 : Cond.code yX8_best cX8_best 6 (some .int) ∈ tb := tb_in (List.mem_of_getElem? (i := 1081) (by decide +kernel)) rfl
theorem lcX8_best : f_LC mX8_best := ⟨tw1081, tw60⟩
theorem hdX8_best : f_hd mX8_best 1 := ⟨⟨by decide +kernel, by decide +kernel, by decide +kernel⟩, by decide⟩
theorem tw1078 : Cond.methodLink RL 88 yX8_best ∈ tb := tb_in (List.mem_of_getElem? (i := 1078) (by decide +kernel)) rfl
theorem tw1079 : Cond.instanceMethod yX8_best ∈ tb := tb_in (List.mem_of_getElem? (i := 1079) (by decide +kernel)) rfl
theorem tw1080 : Cond.selects yX8_best.cls yX8_best yX8_best ∈ tb := tb_in (List.mem_of_getElem? (i := 1080) (by decide +kernel)) rfl
theorem mlL_88 : f_LV RL 88 mX8_best 1 := ⟨lcX8_best, tw1079, tw1080, Or.inl tw1078, hdX8_best⟩
abbrev mX8_tryTaught : f_Y := (yX8_tryTaught, cX8_tryTaught, 4, (some .int))
theorem tw1085 : Cond.code yX8_tryTaught cX8_tryTaught 4 (some .int) ∈ tb := tb_in (List.mem_of_getElem? (i := 1085) (by decide +kernel)) rfl
theorem lcX8_tryTaught : f_LC mX8_tryTaught := ⟨tw1085, tw60⟩
theorem hdX8_tryTaught : f_hd mX8_tryTaught 2 := ⟨⟨by decide +kernel, by decide +kernel, by decide +kernel⟩, by decide⟩
theorem tw1082 : Cond.methodLink RX8 211 yX8_tryTaught ∈ tb := tb_in (List.mem_of_getElem? (i := 1082) (by decide +kernel)) rfl
theorem tw1084 : Cond.instanceMethod yX8_tryTaught ∈ tb := tb_in (List.mem_of_getElem? (i := 1084) (by decide +kernel)) rfl
theorem tw37 : Cond.selects yX8_tryTaught.cls yX8_tryTaught yX8_tryTaught ∈ tb := tb_in (List.mem_of_getElem? (i := 37) (by decide +kernel)) rfl
theorem mlX8_211 : f_LV RX8 211 mX8_tryTaught 2 := ⟨lcX8_tryTaught, tw1084, tw37, Or.inl tw1082, hdX8_tryTaught⟩
abbrev mX8_seen : f_Y := (yX8_seen, cX8_seen, 3, (some .int))
theorem tw1089 : Cond.code yX8_seen cX8_seen 3 (some .int) ∈ tb := tb_in (List.mem_of_getElem? (i := 1089) (by decide +kernel)) rfl
theorem lcX8_seen : f_LC mX8_seen := ⟨tw1089, tw60⟩
theorem hdX8_seen : f_hd mX8_seen 2 := ⟨⟨by decide +kernel, by decide +kernel, by decide +kernel⟩, by decide⟩
theorem tw1086 : Cond.methodLink RL 92 yX8_seen ∈ tb := tb_in (List.mem_of_getElem? (i := 1086) (by decide +kernel)) rfl
theorem tw1087 : Cond.instanceMethod yX8_seen ∈ tb := tb_in (List.mem_of_getElem? (i := 1087) (by decide +kernel)) rfl
theorem tw1088 : Cond.selects yX8_seen.cls yX8_seen yX8_seen ∈ tb := tb_in (List.mem_of_getElem? (i := 1088) (by decide +kernel)) rfl
theorem mlL_92 : f_LV RL 92 mX8_seen 2 := ⟨lcX8_seen, tw1087, tw1088, Or.inl tw1086, hdX8_seen⟩
abbrev mX8_forget : f_Y := (yX8_forget, cX8_forget, 2, (some .int))
theorem tw1093 : Cond.code yX8_forget cX8_forget 2 (some .int) ∈ tb := tb_in (List.mem_of_getElem? (i := 1093) (by decide +kernel)) rfl
theorem lcX8_forget : f_LC mX8_forget := ⟨tw1093, tw60⟩
theorem hdX8_forget : f_hd mX8_forget 0 := ⟨⟨by decide +kernel, by decide +kernel, by decide +kernel⟩, by decide⟩
theorem tw1090 : Cond.methodLink RL 96 yX8_forget ∈ tb := tb_in (List.mem_of_getElem? (i := 1090) (by decide +kernel)) rfl
theorem tw1091 : Cond.instanceMethod yX8_forget ∈ tb := tb_in (List.mem_of_getElem? (i := 1091) (by decide +kernel)) rfl
theorem tw1092 : Cond.selects yX8_forget.cls yX8_forget yX8_forget ∈ tb := tb_in (List.mem_of_getElem? (i := 1092) (by decide +kernel)) rfl
theorem mlL_96 : f_LV RL 96 mX8_forget 0 := ⟨lcX8_forget, tw1091, tw1092, Or.inl tw1090, hdX8_forget⟩
abbrev mX8_fits : f_Y := (yX8_fits, cX8_fits, 3, (some .int))
theorem tw1097 : Cond.code yX8_fits cX8_fits 3 (some .int) ∈ tb := tb_in (List.mem_of_getElem? (i := 1097) (by decide +kernel)) rfl
theorem lcX8_fits : f_LC mX8_fits := ⟨tw1097, tw60⟩
theorem hdX8_fits : f_hd mX8_fits 0 := ⟨⟨by decide +kernel, by decide +kernel, by decide +kernel⟩, by decide⟩
theorem tw1094 : Cond.methodLink RL 100 yX8_fits ∈ tb := tb_in (List.mem_of_getElem? (i := 1094) (by decide +kernel)) rfl
theorem tw1095 : Cond.instanceMethod yX8_fits ∈ tb := tb_in (List.mem_of_getElem? (i := 1095) (by decide +kernel)) rfl
theorem tw1096 : Cond.selects yX8_fits.cls yX8_fits yX8_fits ∈ tb := tb_in (List.mem_of_getElem? (i := 1096) (by decide +kernel)) rfl
theorem mlL_100 : f_LV RL 100 mX8_fits 0 := ⟨lcX8_fits, tw1095, tw1096, Or.inl tw1094, hdX8_fits⟩
abbrev mX8_isFit : f_Y := (yX8_isFit, cX8_isFit, 5, (some .boolean))
theorem tw1101 : Cond.code yX8_isFit cX8_isFit 5 (some .boolean) ∈ tb := tb_in (List.mem_of_getElem? (i := 1101) (by decide +kernel)) rfl
theorem lcX8_isFit : f_LC mX8_isFit := ⟨tw1101, tw60⟩
theorem hdX8_isFit : f_hd mX8_isFit 2 := ⟨⟨by decide +kernel, by decide +kernel, by decide +kernel⟩, by decide⟩
theorem tw1098 : Cond.methodLink RX8 214 yX8_isFit ∈ tb := tb_in (List.mem_of_getElem? (i := 1098) (by decide +kernel)) rfl
theorem tw1100 : Cond.instanceMethod yX8_isFit ∈ tb := tb_in (List.mem_of_getElem? (i := 1100) (by decide +kernel)) rfl
theorem tw38 : Cond.selects yX8_isFit.cls yX8_isFit yX8_isFit ∈ tb := tb_in (List.mem_of_getElem? (i := 38) (by decide +kernel)) rfl
theorem mlX8_214 : f_LV RX8 214 mX8_isFit 2 := ⟨lcX8_isFit, tw1100, tw38, Or.inl tw1098, hdX8_isFit⟩
abbrev mX8_firsts : f_Y := (yX8_firsts, cX8_firsts, 4, (some .int))
theorem tw1105 : Cond.code yX8_firsts cX8_firsts 4 (some .int) ∈ tb := tb_in (List.mem_of_getElem? (i := 1105) (by decide +kernel)) rfl
theorem lcX8_firsts : f_LC mX8_firsts := ⟨tw1105, tw60⟩
theorem hdX8_firsts : f_hd mX8_firsts 1 := ⟨⟨by decide +kernel, by decide +kernel, by decide +kernel⟩, by decide⟩
theorem tw1102 : Cond.methodLink RL 104 yX8_firsts ∈ tb := tb_in (List.mem_of_getElem? (i := 1102) (by decide +kernel)) rfl
theorem tw1103 : Cond.instanceMethod yX8_firsts ∈ tb := tb_in (List.mem_of_getElem? (i := 1103) (by decide +kernel)) rfl
theorem tw1104 : Cond.selects yX8_firsts.cls yX8_firsts yX8_firsts ∈ tb := tb_in (List.mem_of_getElem? (i := 1104) (by decide +kernel)) rfl
theorem mlL_104 : f_LV RL 104 mX8_firsts 1 := ⟨lcX8_firsts, tw1103, tw1104, Or.inl tw1102, hdX8_firsts⟩
abbrev mX8_ask : f_Y := (yX8_ask, cX8_ask, 10, (some .int))
theorem tw1109 : Cond.code yX8_ask cX8_ask 10 (some .int) ∈ tb := tb_in (List.mem_of_getElem? (i := 1109) (by decide +kernel)) rfl
theorem lcX8_ask : f_LC mX8_ask := ⟨tw1109, tw60⟩
theorem hdX8_ask : f_hd mX8_ask 1 := ⟨⟨by decide +kernel, by decide +kernel, by decide +kernel⟩, by decide⟩
theorem tw1106 : Cond.methodLink RL 108 yX8_ask ∈ tb := tb_in (List.mem_of_getElem? (i := 1106) (by decide +kernel)) rfl
theorem tw1107 : Cond.instanceMethod yX8_ask ∈ tb := tb_in (List.mem_of_getElem? (i := 1107) (by decide +kernel)) rfl
theorem tw1108 : Cond.selects yX8_ask.cls yX8_ask yX8_ask ∈ tb := tb_in (List.mem_of_getElem? (i := 1108) (by decide +kernel)) rfl
theorem mlL_108 : f_LV RL 108 mX8_ask 1 := ⟨lcX8_ask, tw1107, tw1108, Or.inl tw1106, hdX8_ask⟩
theorem tw1110 : Cond.methodLink RX8 217 yX8_fits ∈ tb := tb_in (List.mem_of_getElem? (i := 1110) (by decide +kernel)) rfl
theorem mlX8_217 : f_LV RX8 217 mX8_fits 0 := ⟨lcX8_fits, tw1095, tw1096, Or.inl tw1110, hdX8_fits⟩
abbrev mX8_rule : f_Y := (yX8_rule, cX8_rule, 6, (some .int))
theorem tw1114 : Cond.code yX8_rule cX8_rule 6 (some .int) ∈ tb := tb_in (List.mem_of_getElem? (i := 1114) (by decide +kernel)) rfl
theorem lcX8_rule : f_LC mX8_rule := ⟨tw1114, tw60⟩
theorem hdX8_rule : f_hd mX8_rule 1 := ⟨⟨by decide +kernel, by decide +kernel, by decide +kernel⟩, by decide⟩
theorem tw1111 : Cond.methodLink RL 112 yX8_rule ∈ tb := tb_in (List.mem_of_getElem? (i := 1111) (by decide +kernel)) rfl
theorem tw1112 : Cond.instanceMethod yX8_rule ∈ tb := tb_in (List.mem_of_getElem? (i := 1112) (by decide +kernel)) rfl
theorem tw1113 : Cond.selects yX8_rule.cls yX8_rule yX8_rule ∈ tb := tb_in (List.mem_of_getElem? (i := 1113) (by decide +kernel)) rfl
theorem mlL_112 : f_LV RL 112 mX8_rule 1 := ⟨lcX8_rule, tw1112, tw1113, Or.inl tw1111, hdX8_rule⟩
abbrev mX8_holds : f_Y := (yX8_holds, cX8_holds, 3, (some .boolean))
theorem tw1118 : Cond.code yX8_holds cX8_holds 3 (some .boolean) ∈ tb := tb_in (List.mem_of_getElem? (i := 1118) (by decide +kernel)) rfl
theorem lcX8_holds : f_LC mX8_holds := ⟨tw1118, tw60⟩
theorem hdX8_holds : f_hd mX8_holds 2 := ⟨⟨by decide +kernel, by decide +kernel, by decide +kernel⟩, by decide⟩
theorem tw1115 : Cond.methodLink RX8 220 yX8_holds ∈ tb := tb_in (List.mem_of_getElem? (i := 1115) (by decide +kernel)) rfl
theorem tw1117 : Cond.instanceMethod yX8_holds ∈ tb := tb_in (List.mem_of_getElem? (i := 1117) (by decide +kernel)) rfl
theorem tw39 : Cond.selects yX8_holds.cls yX8_holds yX8_holds ∈ tb := tb_in (List.mem_of_getElem? (i := 39) (by decide +kernel)) rfl
theorem mlX8_220 : f_LV RX8 220 mX8_holds 2 := ⟨lcX8_holds, tw1117, tw39, Or.inl tw1115, hdX8_holds⟩
abbrev mX8_wrong : f_Y := (yX8_wrong, cX8_wrong, 8, (some .int))
theorem tw1122 : Cond.code yX8_wrong cX8_wrong 8 (some .int) ∈ tb := tb_in (List.mem_of_getElem? (i := 1122) (by decide +kernel)) rfl
theorem lcX8_wrong : f_LC mX8_wrong := ⟨tw1122, tw60⟩
theorem hdX8_wrong : f_hd mX8_wrong 3 := ⟨⟨by decide +kernel, by decide +kernel, by decide +kernel⟩, by decide⟩
theorem tw1119 : Cond.methodLink RL 117 yX8_wrong ∈ tb := tb_in (List.mem_of_getElem? (i := 1119) (by decide +kernel)) rfl
theorem tw1120 : Cond.instanceMethod yX8_wrong ∈ tb := tb_in (List.mem_of_getElem? (i := 1120) (by decide +kernel)) rfl
theorem tw1121 : Cond.selects yX8_wrong.cls yX8_wrong yX8_wrong ∈ tb := tb_in (List.mem_of_getElem? (i := 1121) (by decide +kernel)) rfl
theorem mlL_117 : f_LV RL 117 mX8_wrong 3 := ⟨lcX8_wrong, tw1120, tw1121, Or.inl tw1119, hdX8_wrong⟩
abbrev mX8_byTurns : f_Y := (yX8_byTurns, cX8_byTurns, 2, (some .int))
theorem tw1126 : Cond.code yX8_byTurns cX8_byTurns 2 (some .int) ∈ tb := tb_in (List.mem_of_getElem? (i := 1126) (by decide +kernel)) rfl
theorem lcX8_byTurns : f_LC mX8_byTurns := ⟨tw1126, tw60⟩
theorem hdX8_byTurns : f_hd mX8_byTurns 1 := ⟨⟨by decide +kernel, by decide +kernel, by decide +kernel⟩, by decide⟩
theorem tw1123 : Cond.methodLink RL 121 yX8_byTurns ∈ tb := tb_in (List.mem_of_getElem? (i := 1123) (by decide +kernel)) rfl
theorem tw1124 : Cond.instanceMethod yX8_byTurns ∈ tb := tb_in (List.mem_of_getElem? (i := 1124) (by decide +kernel)) rfl
theorem tw1125 : Cond.selects yX8_byTurns.cls yX8_byTurns yX8_byTurns ∈ tb := tb_in (List.mem_of_getElem? (i := 1125) (by decide +kernel)) rfl
theorem mlL_121 : f_LV RL 121 mX8_byTurns 1 := ⟨lcX8_byTurns, tw1124, tw1125, Or.inl tw1123, hdX8_byTurns⟩
abbrev mX8_oneRound : f_Y := (yX8_oneRound, cX8_oneRound, 4, (some .int))
theorem tw1131 : Cond.code yX8_oneRound cX8_oneRound 4 (some .int) ∈ tb := tb_in (List.mem_of_getElem? (i := 1131) (by decide +kernel)) rfl
theorem lcX8_oneRound : f_LC mX8_oneRound := ⟨tw1131, tw60⟩
theorem hdX8_oneRound : f_hd mX8_oneRound 0 := ⟨⟨by decide +kernel, by decide +kernel, by decide +kernel⟩, by decide⟩
theorem tw1128 : Cond.methodLink RX8 230 yX8_oneRound ∈ tb := tb_in (List.mem_of_getElem? (i := 1128) (by decide +kernel)) rfl
theorem tw1130 : Cond.instanceMethod yX8_oneRound ∈ tb := tb_in (List.mem_of_getElem? (i := 1130) (by decide +kernel)) rfl
theorem tw40 : Cond.selects yX8_oneRound.cls yX8_oneRound yX8_oneRound ∈ tb := tb_in (List.mem_of_getElem? (i := 40) (by decide +kernel)) rfl
theorem mlX8_230 : f_LV RX8 230 mX8_oneRound 0 := ⟨lcX8_oneRound, tw1130, tw40, Or.inl tw1128, hdX8_oneRound⟩
abbrev mX8_copyTo : f_Y := (yX8_copyTo, cX8_copyTo, 4, none)
theorem tw1135 : Cond.code yX8_copyTo cX8_copyTo 4 none ∈ tb := tb_in (List.mem_of_getElem? (i := 1135) (by decide +kernel)) rfl
theorem lcX8_copyTo : f_LC mX8_copyTo := ⟨tw1135, tw60⟩
theorem hdX8_copyTo : f_hd mX8_copyTo 2 := ⟨⟨by decide +kernel, by decide +kernel, by decide +kernel⟩, by decide⟩
theorem tw1132 : Cond.methodLink RX8 223 yX8_copyTo ∈ tb := tb_in (List.mem_of_getElem? (i := 1132) (by decide +kernel)) rfl
theorem tw1134 : Cond.instanceMethod yX8_copyTo ∈ tb := tb_in (List.mem_of_getElem? (i := 1134) (by decide +kernel)) rfl
theorem tw41 : Cond.selects yX8_copyTo.cls yX8_copyTo yX8_copyTo ∈ tb := tb_in (List.mem_of_getElem? (i := 41) (by decide +kernel)) rfl
theorem mlX8_223 : f_LV RX8 223 mX8_copyTo 2 := ⟨lcX8_copyTo, tw1134, tw41, Or.inl tw1132, hdX8_copyTo⟩
abbrev mX8_worstDay : f_Y := (yX8_worstDay, cX8_worstDay, 5, (some .int))
theorem tw1139 : Cond.code yX8_worstDay cX8_worstDay 5 (some .int) ∈ tb := tb_in (List.mem_of_getElem? (i := 1139) (by decide +kernel)) rfl
theorem lcX8_worstDay : f_LC mX8_worstDay := ⟨tw1139, tw60⟩
theorem hdX8_worstDay : f_hd mX8_worstDay 0 := ⟨⟨by decide +kernel, by decide +kernel, by decide +kernel⟩, by decide⟩
theorem tw1136 : Cond.methodLink RX8 227 yX8_worstDay ∈ tb := tb_in (List.mem_of_getElem? (i := 1136) (by decide +kernel)) rfl
theorem tw1138 : Cond.instanceMethod yX8_worstDay ∈ tb := tb_in (List.mem_of_getElem? (i := 1138) (by decide +kernel)) rfl
theorem tw42 : Cond.selects yX8_worstDay.cls yX8_worstDay yX8_worstDay ∈ tb := tb_in (List.mem_of_getElem? (i := 42) (by decide +kernel)) rfl
theorem mlX8_227 : f_LV RX8 227 mX8_worstDay 0 := ⟨lcX8_worstDay, tw1138, tw42, Or.inl tw1136, hdX8_worstDay⟩
abbrev mX8_twoRounds : f_Y := (yX8_twoRounds, cX8_twoRounds, 4, (some .int))
theorem tw1143 : Cond.code yX8_twoRounds cX8_twoRounds 4 (some .int) ∈ tb := tb_in (List.mem_of_getElem? (i := 1143) (by decide +kernel)) rfl
theorem lcX8_twoRounds : f_LC mX8_twoRounds := ⟨tw1143, tw60⟩
theorem hdX8_twoRounds : f_hd mX8_twoRounds 0 := ⟨⟨by decide +kernel, by decide +kernel, by decide +kernel⟩, by decide⟩
theorem tw1140 : Cond.methodLink RX8 238 yX8_twoRounds ∈ tb := tb_in (List.mem_of_getElem? (i := 1140) (by decide +kernel)) rfl
theorem tw1142 : Cond.instanceMethod yX8_twoRounds ∈ tb := tb_in (List.mem_of_getElem? (i := 1142) (by decide +kernel)) rfl
theorem tw43 : Cond.selects yX8_twoRounds.cls yX8_twoRounds yX8_twoRounds ∈ tb := tb_in (List.mem_of_getElem? (i := 43) (by decide +kernel)) rfl
theorem mlX8_238 : f_LV RX8 238 mX8_twoRounds 0 := ⟨lcX8_twoRounds, tw1142, tw43, Or.inl tw1140, hdX8_twoRounds⟩
abbrev mX8_worstTwo : f_Y := (yX8_worstTwo, cX8_worstTwo, 5, (some .int))
theorem tw1147 : Cond.code yX8_worstTwo cX8_worstTwo 5 (some .int) ∈ tb := tb_in (List.mem_of_getElem? (i := 1147) (by decide +kernel)) rfl
theorem lcX8_worstTwo : f_LC mX8_worstTwo := ⟨tw1147, tw60⟩
theorem hdX8_worstTwo : f_hd mX8_worstTwo 0 := ⟨⟨by decide +kernel, by decide +kernel, by decide +kernel⟩, by decide⟩
theorem tw1144 : Cond.methodLink RX8 233 yX8_worstTwo ∈ tb := tb_in (List.mem_of_getElem? (i := 1144) (by decide +kernel)) rfl
theorem tw1146 : Cond.instanceMethod yX8_worstTwo ∈ tb := tb_in (List.mem_of_getElem? (i := 1146) (by decide +kernel)) rfl
theorem tw44 : Cond.selects yX8_worstTwo.cls yX8_worstTwo yX8_worstTwo ∈ tb := tb_in (List.mem_of_getElem? (i := 44) (by decide +kernel)) rfl
theorem mlX8_233 : f_LV RX8 233 mX8_worstTwo 0 := ⟨lcX8_worstTwo, tw1146, tw44, Or.inl tw1144, hdX8_worstTwo⟩
abbrev mX8_mean : f_Y := (yX8_mean, cX8_mean, 14, (some .int))
theorem tw1151 : Cond.code yX8_mean cX8_mean 14 (some .int) ∈ tb := tb_in (List.mem_of_getElem? (i := 1151) (by decide +kernel)) rfl
theorem lcX8_mean : f_LC mX8_mean := ⟨tw1151, tw60⟩
theorem hdX8_mean : f_hd mX8_mean 2 := ⟨⟨by decide +kernel, by decide +kernel, by decide +kernel⟩, by decide⟩
theorem tw1148 : Cond.methodLink RL 125 yX8_mean ∈ tb := tb_in (List.mem_of_getElem? (i := 1148) (by decide +kernel)) rfl
theorem tw1149 : Cond.instanceMethod yX8_mean ∈ tb := tb_in (List.mem_of_getElem? (i := 1149) (by decide +kernel)) rfl
theorem tw1150 : Cond.selects yX8_mean.cls yX8_mean yX8_mean ∈ tb := tb_in (List.mem_of_getElem? (i := 1150) (by decide +kernel)) rfl
theorem mlL_125 : f_LV RL 125 mX8_mean 2 := ⟨lcX8_mean, tw1149, tw1150, Or.inl tw1148, hdX8_mean⟩
abbrev mX8_common : f_Y := (yX8_common, cX8_common, 10, (some .long))
theorem tw1154 : Cond.code yX8_common cX8_common 10 (some .long) ∈ tb := tb_in (List.mem_of_getElem? (i := 1154) (by decide +kernel)) rfl
theorem lcX8_common : f_LC mX8_common := ⟨tw1154, tw60⟩
theorem hdX8_common : f_hd mX8_common 2 := ⟨⟨by decide +kernel, by decide +kernel, by decide +kernel⟩, by decide⟩
theorem tw1152 : Cond.methodLink RX8 241 yX8_common ∈ tb := tb_in (List.mem_of_getElem? (i := 1152) (by decide +kernel)) rfl
theorem tw1153 : Cond.static yX8_common ∈ tb := tb_in (List.mem_of_getElem? (i := 1153) (by decide +kernel)) rfl
theorem mlX8_241 : f_LS RX8 241 mX8_common 2 := ⟨lcX8_common, tw1153, Or.inl tw1152, hdX8_common⟩
abbrev mX8_year : f_Y := (yX8_year, cX8_year, 7, (some .int))
theorem tw1158 : Cond.code yX8_year cX8_year 7 (some .int) ∈ tb := tb_in (List.mem_of_getElem? (i := 1158) (by decide +kernel)) rfl
theorem lcX8_year : f_LC mX8_year := ⟨tw1158, tw60⟩
theorem hdX8_year : f_hd mX8_year 3 := ⟨⟨by decide +kernel, by decide +kernel, by decide +kernel⟩, by decide⟩
theorem tw1155 : Cond.methodLink RL 129 yX8_year ∈ tb := tb_in (List.mem_of_getElem? (i := 1155) (by decide +kernel)) rfl
theorem tw1156 : Cond.instanceMethod yX8_year ∈ tb := tb_in (List.mem_of_getElem? (i := 1156) (by decide +kernel)) rfl
theorem tw1157 : Cond.selects yX8_year.cls yX8_year yX8_year ∈ tb := tb_in (List.mem_of_getElem? (i := 1157) (by decide +kernel)) rfl
theorem mlL_129 : f_LV RL 129 mX8_year 3 := ⟨lcX8_year, tw1156, tw1157, Or.inl tw1155, hdX8_year⟩
abbrev mX8_keep : f_Y := (yX8_keep, cX8_keep, 2, (some .int))
theorem tw1168 : Cond.code yX8_keep cX8_keep 2 (some .int) ∈ tb := tb_in (List.mem_of_getElem? (i := 1168) (by decide +kernel)) rfl
theorem lcX8_keep : f_LC mX8_keep := ⟨tw1168, tw60⟩
theorem hdX8_keep : f_hd mX8_keep 0 := ⟨⟨by decide +kernel, by decide +kernel, by decide +kernel⟩, by decide⟩
theorem tw1165 : Cond.methodLink RL 133 yX8_keep ∈ tb := tb_in (List.mem_of_getElem? (i := 1165) (by decide +kernel)) rfl
theorem tw1166 : Cond.instanceMethod yX8_keep ∈ tb := tb_in (List.mem_of_getElem? (i := 1166) (by decide +kernel)) rfl
theorem tw1167 : Cond.selects yX8_keep.cls yX8_keep yX8_keep ∈ tb := tb_in (List.mem_of_getElem? (i := 1167) (by decide +kernel)) rfl
theorem mlL_133 : f_LV RL 133 mX8_keep 0 := ⟨lcX8_keep, tw1166, tw1167, Or.inl tw1165, hdX8_keep⟩
abbrev mX8_back : f_Y := (yX8_back, cX8_back, 2, (some .int))
theorem tw1172 : Cond.code yX8_back cX8_back 2 (some .int) ∈ tb := tb_in (List.mem_of_getElem? (i := 1172) (by decide +kernel)) rfl
theorem lcX8_back : f_LC mX8_back := ⟨tw1172, tw60⟩
theorem hdX8_back : f_hd mX8_back 0 := ⟨⟨by decide +kernel, by decide +kernel, by decide +kernel⟩, by decide⟩
theorem tw1169 : Cond.methodLink RL 137 yX8_back ∈ tb := tb_in (List.mem_of_getElem? (i := 1169) (by decide +kernel)) rfl
theorem tw1170 : Cond.instanceMethod yX8_back ∈ tb := tb_in (List.mem_of_getElem? (i := 1170) (by decide +kernel)) rfl
theorem tw1171 : Cond.selects yX8_back.cls yX8_back yX8_back ∈ tb := tb_in (List.mem_of_getElem? (i := 1171) (by decide +kernel)) rfl
theorem mlL_137 : f_LV RL 137 mX8_back 0 := ⟨lcX8_back, tw1170, tw1171, Or.inl tw1169, hdX8_back⟩
abbrev mX8_count : f_Y := (yX8_count, cX8_count, 2, (some .int))
theorem tw1176 : Cond.code yX8_count cX8_count 2 (some .int) ∈ tb := tb_in (List.mem_of_getElem? (i := 1176) (by decide +kernel)) rfl
theorem lcX8_count : f_LC mX8_count := ⟨tw1176, tw60⟩
theorem hdX8_count : f_hd mX8_count 1 := ⟨⟨by decide +kernel, by decide +kernel, by decide +kernel⟩, by decide⟩
theorem tw1173 : Cond.methodLink RL 141 yX8_count ∈ tb := tb_in (List.mem_of_getElem? (i := 1173) (by decide +kernel)) rfl
theorem tw1174 : Cond.instanceMethod yX8_count ∈ tb := tb_in (List.mem_of_getElem? (i := 1174) (by decide +kernel)) rfl
theorem tw1175 : Cond.selects yX8_count.cls yX8_count yX8_count ∈ tb := tb_in (List.mem_of_getElem? (i := 1175) (by decide +kernel)) rfl
theorem mlL_141 : f_LV RL 141 mX8_count 1 := ⟨lcX8_count, tw1174, tw1175, Or.inl tw1173, hdX8_count⟩
theorem kcJ6_265 : Cond.constant RJ6 265 (1431655765) ∈ tb := tb_in (List.mem_of_getElem? (i := 500) (by decide +kernel)) (by decide +kernel)
theorem kcJ6_266 : Cond.constant RJ6 266 (858993459) ∈ tb := tb_in (List.mem_of_getElem? (i := 501) (by decide +kernel)) (by decide +kernel)
theorem kcJ6_267 : Cond.constant RJ6 267 (252645135) ∈ tb := tb_in (List.mem_of_getElem? (i := 502) (by decide +kernel)) (by decide +kernel)
theorem kcX0_77 : Cond.constant RX0 77 (1000000) ∈ tb := tb_in (List.mem_of_getElem? (i := 539) (by decide +kernel)) (by decide +kernel)
theorem kcX4_50 : Cond.constant RX4 50 (1000000) ∈ tb := tb_in (List.mem_of_getElem? (i := 681) (by decide +kernel)) (by decide +kernel)
theorem kcX7_236 : Cond.constant RX7 236 (1000000) ∈ tb := tb_in (List.mem_of_getElem? (i := 744) (by decide +kernel)) (by decide +kernel)
theorem kcX7_301 : Cond.constantLong RX7 301 (7919) ∈ tb := tb_in (List.mem_of_getElem? (i := 791) (by decide +kernel)) (by decide +kernel)
theorem kcX7_303 : Cond.constantLong RX7 303 (6151) ∈ tb := tb_in (List.mem_of_getElem? (i := 792) (by decide +kernel)) (by decide +kernel)
theorem kcX7_305 : Cond.constantLong RX7 305 (65521) ∈ tb := tb_in (List.mem_of_getElem? (i := 793) (by decide +kernel)) (by decide +kernel)
theorem kcX7_307 : Cond.constantLong RX7 307 (8) ∈ tb := tb_in (List.mem_of_getElem? (i := 794) (by decide +kernel)) (by decide +kernel)
theorem kcX8_84 : Cond.constantLong RX8 84 (32) ∈ tb := tb_in (List.mem_of_getElem? (i := 922) (by decide +kernel)) (by decide +kernel)
theorem kcX8_86 : Cond.constantLong RX8 86 (126) ∈ tb := tb_in (List.mem_of_getElem? (i := 923) (by decide +kernel)) (by decide +kernel)
theorem kcX8_94 : Cond.constantLong RX8 94 (48) ∈ tb := tb_in (List.mem_of_getElem? (i := 943) (by decide +kernel)) (by decide +kernel)
theorem kcX8_96 : Cond.constantLong RX8 96 (57) ∈ tb := tb_in (List.mem_of_getElem? (i := 944) (by decide +kernel)) (by decide +kernel)
theorem kcX8_101 : Cond.constantLong RX8 101 (31) ∈ tb := tb_in (List.mem_of_getElem? (i := 949) (by decide +kernel)) (by decide +kernel)
theorem kcX8_82 : Cond.constantLong RX8 82 (5) ∈ tb := tb_in (List.mem_of_getElem? (i := 953) (by decide +kernel)) (by decide +kernel)
theorem kcX8_107 : Cond.constantLong RX8 107 (63) ∈ tb := tb_in (List.mem_of_getElem? (i := 954) (by decide +kernel)) (by decide +kernel)
theorem kcX8_109 : Cond.constantLong RX8 109 (20) ∈ tb := tb_in (List.mem_of_getElem? (i := 955) (by decide +kernel)) (by decide +kernel)
theorem kcX8_111 : Cond.constantLong RX8 111 (9) ∈ tb := tb_in (List.mem_of_getElem? (i := 956) (by decide +kernel)) (by decide +kernel)
theorem kcX8_180 : Cond.constantLong RX8 180 (3) ∈ tb := tb_in (List.mem_of_getElem? (i := 993) (by decide +kernel)) (by decide +kernel)
theorem kcX8_197 : Cond.constantLong RX8 197 (-1) ∈ tb := tb_in (List.mem_of_getElem? (i := 1041) (by decide +kernel)) (by decide +kernel)
theorem kcX8_236 : Cond.constantLong RX8 236 (2) ∈ tb := tb_in (List.mem_of_getElem? (i := 1127) (by decide +kernel)) (by decide +kernel)
theorem kcX8_245 : Cond.constantLong RX8 245 (9999) ∈ tb := tb_in (List.mem_of_getElem? (i := 1159) (by decide +kernel)) (by decide +kernel)
theorem kcX8_247 : Cond.constantLong RX8 247 (60) ∈ tb := tb_in (List.mem_of_getElem? (i := 1160) (by decide +kernel)) (by decide +kernel)
theorem kcX8_249 : Cond.constantLong RX8 249 (7919) ∈ tb := tb_in (List.mem_of_getElem? (i := 1161) (by decide +kernel)) (by decide +kernel)
theorem kcX8_251 : Cond.constantLong RX8 251 (6151) ∈ tb := tb_in (List.mem_of_getElem? (i := 1162) (by decide +kernel)) (by decide +kernel)
theorem kcX8_253 : Cond.constantLong RX8 253 (65521) ∈ tb := tb_in (List.mem_of_getElem? (i := 1163) (by decide +kernel)) (by decide +kernel)
theorem kcX8_255 : Cond.constantLong RX8 255 (8) ∈ tb := tb_in (List.mem_of_getElem? (i := 1164) (by decide +kernel)) (by decide +kernel)
