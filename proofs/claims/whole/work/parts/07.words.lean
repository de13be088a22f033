theorem lw_in {w : Cond} (h : w ∈ tables_1) : w ∈ lw_tbl := List.mem_append_right _ h
theorem lw_at1 {w : Cond} (n : Nat) (h : tables_1_1[n]? = some w) : w ∈ lw_tbl := lw_in (show w ∈ tables_1_1 ++ (tables_1_2 ++ (tables_1_3 ++ (tables_1_4 ++ (tables_1_5 ++ tables_1_6)))) from List.mem_append_left _ (List.mem_of_getElem? h))
theorem lw_at2 {w : Cond} (n : Nat) (h : tables_1_2[n]? = some w) : w ∈ lw_tbl := lw_in (show w ∈ tables_1_1 ++ (tables_1_2 ++ (tables_1_3 ++ (tables_1_4 ++ (tables_1_5 ++ tables_1_6)))) from List.mem_append_right _ (List.mem_append_left _ (List.mem_of_getElem? h)))
theorem lw_at3 {w : Cond} (n : Nat) (h : tables_1_3[n]? = some w) : w ∈ lw_tbl := lw_in (show w ∈ tables_1_1 ++ (tables_1_2 ++ (tables_1_3 ++ (tables_1_4 ++ (tables_1_5 ++ tables_1_6)))) from List.mem_append_right _ (List.mem_append_right _ (List.mem_append_left _ (List.mem_of_getElem? h))))
theorem lw_at4 {w : Cond} (n : Nat) (h : tables_1_4[n]? = some w) : w ∈ lw_tbl := lw_in (show w ∈ tables_1_1 ++ (tables_1_2 ++ (tables_1_3 ++ (tables_1_4 ++ (tables_1_5 ++ tables_1_6)))) from List.mem_append_right _ (List.mem_append_right _ (List.mem_append_right _ (List.mem_append_left _ (List.mem_of_getElem? h)))))
theorem lw_at5 {w : Cond} (n : Nat) (h : tables_1_5[n]? = some w) : w ∈ lw_tbl := lw_in (show w ∈ tables_1_1 ++ (tables_1_2 ++ (tables_1_3 ++ (tables_1_4 ++ (tables_1_5 ++ tables_1_6)))) from List.mem_append_right _ (List.mem_append_right _ (List.mem_append_right _ (List.mem_append_right _ (List.mem_append_left _ (List.mem_of_getElem? h))))))
theorem lw_at6 {w : Cond} (n : Nat) (h : tables_1_6[n]? = some w) : w ∈ lw_tbl := lw_in (show w ∈ tables_1_1 ++ (tables_1_2 ++ (tables_1_3 ++ (tables_1_4 ++ (tables_1_5 ++ tables_1_6)))) from List.mem_append_right _ (List.mem_append_right _ (List.mem_append_right _ (List.mem_append_right _ (List.mem_append_right _ (List.mem_of_getElem? h))))))
set_option maxRecDepth 30000 in
theorem mf_Ck_init : MFi y_Ck_init b_Ck_init 2 1 := ⟨⟨UW_of (lw_at1 143 rfl) rfl, UW_of (lw_at1 7 rfl) rfl, ⟨by decide, by decide⟩, by decide +kernel, by decide⟩, UW_of (lw_at1 142 rfl) rfl, rfl⟩
set_option maxRecDepth 30000 in
theorem mf_Ck_isWellTyped : MFv y_Ck_isWellTyped b_Ck_isWellTyped 4 (some .boolean) 1 := ⟨⟨UW_of (lw_at3 207 rfl) rfl, UW_of (lw_at1 7 rfl) rfl, ⟨by decide, by decide⟩, by decide +kernel, by decide⟩, UW_of (lw_at3 205 rfl) rfl, UW_of (lw_at3 206 rfl) rfl⟩
set_option maxRecDepth 30000 in
theorem mf_Ck_kindOfStep : MFv y_Ck_kindOfStep b_Ck_kindOfStep 4 (some .int) 1 := ⟨⟨UW_of (lw_at3 212 rfl) rfl, UW_of (lw_at1 7 rfl) rfl, ⟨by decide, by decide⟩, by decide +kernel, by decide⟩, UW_of (lw_at3 211 rfl) rfl, UW_of (lw_at 31 rfl) rfl⟩
set_option maxRecDepth 30000 in
theorem mf_Ck_booleanIf : MFs y_Ck_booleanIf b_Ck_booleanIf 1 (some .int) 1 := ⟨⟨UW_of (lw_at4 9 rfl) rfl, UW_of (lw_at1 7 rfl) rfl, ⟨by decide, by decide⟩, by decide +kernel, by decide⟩, UW_of (lw_at4 8 rfl) rfl⟩
set_option maxRecDepth 30000 in
theorem mf_Ck_canCast : MFv y_Ck_canCast b_Ck_canCast 3 (some .boolean) 2 := ⟨⟨UW_of (lw_at3 235 rfl) rfl, UW_of (lw_at1 7 rfl) rfl, ⟨by decide, by decide⟩, by decide +kernel, by decide⟩, UW_of (lw_at3 234 rfl) rfl, UW_of (lw_at 32 rfl) rfl⟩
set_option maxRecDepth 30000 in
theorem mf_Ck_kindOfChoice : MFv y_Ck_kindOfChoice b_Ck_kindOfChoice 3 (some .int) 2 := ⟨⟨UW_of (lw_at4 24 rfl) rfl, UW_of (lw_at1 7 rfl) rfl, ⟨by decide, by decide⟩, by decide +kernel, by decide⟩, UW_of (lw_at4 23 rfl) rfl, UW_of (lw_at 33 rfl) rfl⟩
set_option maxRecDepth 30000 in
theorem mf_Ck_kindOfTwo : MFv y_Ck_kindOfTwo b_Ck_kindOfTwo 6 (some .int) 3 := ⟨⟨UW_of (lw_at4 30 rfl) rfl, UW_of (lw_at1 7 rfl) rfl, ⟨by decide, by decide⟩, by decide +kernel, by decide⟩, UW_of (lw_at4 29 rfl) rfl, UW_of (lw_at 34 rfl) rfl⟩
set_option maxRecDepth 30000 in
theorem mf_Ck_kindOfElement : MFs y_Ck_kindOfElement b_Ck_kindOfElement 3 (some .int) 2 := ⟨⟨UW_of (lw_at4 33 rfl) rfl, UW_of (lw_at1 7 rfl) rfl, ⟨by decide, by decide⟩, by decide +kernel, by decide⟩, UW_of (lw_at4 32 rfl) rfl⟩
set_option maxRecDepth 30000 in
theorem mf_Ev_init : MFi y_Ev_init b_Ev_init 5 4 := ⟨⟨UW_of (lw_at1 155 rfl) rfl, UW_of (lw_at1 8 rfl) rfl, ⟨by decide, by decide⟩, by decide +kernel, by decide⟩, UW_of (lw_at1 154 rfl) rfl, rfl⟩
set_option maxRecDepth 30000 in
theorem mf_Ev_state : MFv y_Ev_state b_Ev_state 1 (some .int) 0 := ⟨⟨UW_of (lw_at2 120 rfl) rfl, UW_of (lw_at1 8 rfl) rfl, ⟨by decide, by decide⟩, by decide +kernel, by decide⟩, UW_of (lw_at2 118 rfl) rfl, UW_of (lw_at2 119 rfl) rfl⟩
set_option maxRecDepth 30000 in
theorem mf_Ev_kind : MFv y_Ev_kind b_Ev_kind 1 (some .int) 0 := ⟨⟨UW_of (lw_at4 189 rfl) rfl, UW_of (lw_at1 8 rfl) rfl, ⟨by decide, by decide⟩, by decide +kernel, by decide⟩, UW_of (lw_at4 187 rfl) rfl, UW_of (lw_at4 188 rfl) rfl⟩
set_option maxRecDepth 30000 in
theorem mf_Ev_exception : MFv y_Ev_exception b_Ev_exception 1 (some .int) 0 := ⟨⟨UW_of (lw_at4 193 rfl) rfl, UW_of (lw_at1 8 rfl) rfl, ⟨by decide, by decide⟩, by decide +kernel, by decide⟩, UW_of (lw_at4 191 rfl) rfl, UW_of (lw_at4 192 rfl) rfl⟩
set_option maxRecDepth 30000 in
theorem mf_Ev_result : MFv y_Ev_result b_Ev_result 1 (some .long) 0 := ⟨⟨UW_of (lw_at4 201 rfl) rfl, UW_of (lw_at1 8 rfl) rfl, ⟨by decide, by decide⟩, by decide +kernel, by decide⟩, UW_of (lw_at4 199 rfl) rfl, UW_of (lw_at4 200 rfl) rfl⟩
set_option maxRecDepth 30000 in
theorem mf_Ev_takeText : MFv y_Ev_takeText b_Ev_takeText 3 none 2 := ⟨⟨UW_of (lw_at2 151 rfl) rfl, UW_of (lw_at1 8 rfl) rfl, ⟨by decide, by decide⟩, by decide +kernel, by decide⟩, UW_of (lw_at2 149 rfl) rfl, UW_of (lw_at2 150 rfl) rfl⟩
set_option maxRecDepth 30000 in
theorem mf_Ev_begin : MFv y_Ev_begin b_Ev_begin 1 (some .int) 0 := ⟨⟨UW_of (lw_at2 158 rfl) rfl, UW_of (lw_at1 8 rfl) rfl, ⟨by decide, by decide⟩, by decide +kernel, by decide⟩, UW_of (lw_at2 156 rfl) rfl, UW_of (lw_at2 157 rfl) rfl⟩
set_option maxRecDepth 30000 in
theorem mf_Ev_goOn : MFv y_Ev_goOn b_Ev_goOn 2 none 0 := ⟨⟨UW_of (lw_at4 44 rfl) rfl, UW_of (lw_at1 8 rfl) rfl, ⟨by decide, by decide⟩, by decide +kernel, by decide⟩, UW_of (lw_at4 42 rfl) rfl, UW_of (lw_at4 43 rfl) rfl⟩
set_option maxRecDepth 30000 in
theorem mf_Ev_waitsFor : MFv y_Ev_waitsFor b_Ev_waitsFor 2 (some .boolean) 1 := ⟨⟨UW_of (lw_at4 176 rfl) rfl, UW_of (lw_at1 8 rfl) rfl, ⟨by decide, by decide⟩, by decide +kernel, by decide⟩, UW_of (lw_at4 174 rfl) rfl, UW_of (lw_at4 175 rfl) rfl⟩
set_option maxRecDepth 30000 in
theorem mf_Ev_stopWaiting : MFv y_Ev_stopWaiting b_Ev_stopWaiting 2 none 1 := ⟨⟨UW_of (lw_at2 124 rfl) rfl, UW_of (lw_at1 8 rfl) rfl, ⟨by decide, by decide⟩, by decide +kernel, by decide⟩, UW_of (lw_at2 122 rfl) rfl, UW_of (lw_at2 123 rfl) rfl⟩
set_option maxRecDepth 30000 in
theorem mf_Ev_settle : MFv y_Ev_settle b_Ev_settle 4 none 2 := ⟨⟨UW_of (lw_at4 80 rfl) rfl, UW_of (lw_at1 8 rfl) rfl, ⟨by decide, by decide⟩, by decide +kernel, by decide⟩, UW_of (lw_at4 79 rfl) rfl, UW_of (lw_at 38 rfl) rfl⟩
set_option maxRecDepth 30000 in
theorem mf_Ev_fail : MFv y_Ev_fail b_Ev_fail 2 none 1 := ⟨⟨UW_of (lw_at4 92 rfl) rfl, UW_of (lw_at1 8 rfl) rfl, ⟨by decide, by decide⟩, by decide +kernel, by decide⟩, UW_of (lw_at4 91 rfl) rfl, UW_of (lw_at 40 rfl) rfl⟩
set_option maxRecDepth 30000 in
theorem mf_Ev_has : MFv y_Ev_has b_Ev_has 2 (some .boolean) 1 := ⟨⟨UW_of (lw_at4 64 rfl) rfl, UW_of (lw_at1 8 rfl) rfl, ⟨by decide, by decide⟩, by decide +kernel, by decide⟩, UW_of (lw_at4 63 rfl) rfl, UW_of (lw_at 37 rfl) rfl⟩
set_option maxRecDepth 30000 in
theorem mf_Ev_fetch : MFv y_Ev_fetch b_Ev_fetch 3 none 2 := ⟨⟨UW_of (lw_at4 60 rfl) rfl, UW_of (lw_at1 8 rfl) rfl, ⟨by decide, by decide⟩, by decide +kernel, by decide⟩, UW_of (lw_at4 59 rfl) rfl, UW_of (lw_at 36 rfl) rfl⟩
set_option maxRecDepth 30000 in
theorem mf_Ev_workOut : MFv y_Ev_workOut b_Ev_workOut 5 none 1 := ⟨⟨UW_of (lw_at4 48 rfl) rfl, UW_of (lw_at1 8 rfl) rfl, ⟨by decide, by decide⟩, by decide +kernel, by decide⟩, UW_of (lw_at4 47 rfl) rfl, UW_of (lw_at 35 rfl) rfl⟩
set_option maxRecDepth 30000 in
theorem mf_Ev_workOutPart : MFv y_Ev_workOutPart b_Ev_workOutPart 4 none 3 := ⟨⟨UW_of (lw_at4 88 rfl) rfl, UW_of (lw_at1 8 rfl) rfl, ⟨by decide, by decide⟩, by decide +kernel, by decide⟩, UW_of (lw_at4 87 rfl) rfl, UW_of (lw_at 39 rfl) rfl⟩
set_option maxRecDepth 30000 in
theorem mf_Ev_workOutElement : MFv y_Ev_workOutElement b_Ev_workOutElement 6 none 3 := ⟨⟨UW_of (lw_at4 96 rfl) rfl, UW_of (lw_at1 8 rfl) rfl, ⟨by decide, by decide⟩, by decide +kernel, by decide⟩, UW_of (lw_at4 95 rfl) rfl, UW_of (lw_at 41 rfl) rfl⟩
set_option maxRecDepth 30000 in
theorem mf_Ev_workOutInstanceof : MFv y_Ev_workOutInstanceof b_Ev_workOutInstanceof 4 none 3 := ⟨⟨UW_of (lw_at4 100 rfl) rfl, UW_of (lw_at1 8 rfl) rfl, ⟨by decide, by decide⟩, by decide +kernel, by decide⟩, UW_of (lw_at4 99 rfl) rfl, UW_of (lw_at 42 rfl) rfl⟩
set_option maxRecDepth 30000 in
theorem mf_Ev_workOutCast : MFv y_Ev_workOutCast b_Ev_workOutCast 5 none 3 := ⟨⟨UW_of (lw_at4 113 rfl) rfl, UW_of (lw_at1 8 rfl) rfl, ⟨by decide, by decide⟩, by decide +kernel, by decide⟩, UW_of (lw_at4 112 rfl) rfl, UW_of (lw_at 45 rfl) rfl⟩
set_option maxRecDepth 30000 in
theorem mf_Ev_fitsAnyway : MFv y_Ev_fitsAnyway b_Ev_fitsAnyway 3 (some .boolean) 2 := ⟨⟨UW_of (lw_at4 104 rfl) rfl, UW_of (lw_at1 8 rfl) rfl, ⟨by decide, by decide⟩, by decide +kernel, by decide⟩, UW_of (lw_at4 103 rfl) rfl, UW_of (lw_at 43 rfl) rfl⟩
set_option maxRecDepth 30000 in
theorem mf_Ev_isObjectOf : MFv y_Ev_isObjectOf b_Ev_isObjectOf 3 (some .boolean) 2 := ⟨⟨UW_of (lw_at4 109 rfl) rfl, UW_of (lw_at1 8 rfl) rfl, ⟨by decide, by decide⟩, by decide +kernel, by decide⟩, UW_of (lw_at4 108 rfl) rfl, UW_of (lw_at 44 rfl) rfl⟩
set_option maxRecDepth 30000 in
theorem mf_Ev_workOutSign : MFv y_Ev_workOutSign b_Ev_workOutSign 8 none 3 := ⟨⟨UW_of (lw_at4 120 rfl) rfl, UW_of (lw_at1 8 rfl) rfl, ⟨by decide, by decide⟩, by decide +kernel, by decide⟩, UW_of (lw_at4 119 rfl) rfl, UW_of (lw_at 46 rfl) rfl⟩
set_option maxRecDepth 30000 in
theorem mf_Ev_shifted : MFs y_Ev_shifted b_Ev_shifted 7 (some .long) 4 := ⟨⟨UW_of (lw_at4 123 rfl) rfl, UW_of (lw_at1 8 rfl) rfl, ⟨by decide, by decide⟩, by decide +kernel, by decide⟩, UW_of (lw_at4 122 rfl) rfl⟩
set_option maxRecDepth 30000 in
theorem mf_Ev_changed : MFs y_Ev_changed b_Ev_changed 3 (some .long) 2 := ⟨⟨UW_of (lw_at4 128 rfl) rfl, UW_of (lw_at1 8 rfl) rfl, ⟨by decide, by decide⟩, by decide +kernel, by decide⟩, UW_of (lw_at4 127 rfl) rfl⟩
set_option maxRecDepth 30000 in
theorem mf_Ev_combined : MFs y_Ev_combined b_Ev_combined 5 (some .long) 3 := ⟨⟨UW_of (lw_at4 132 rfl) rfl, UW_of (lw_at1 8 rfl) rfl, ⟨by decide, by decide⟩, by decide +kernel, by decide⟩, UW_of (lw_at4 131 rfl) rfl⟩
set_option maxRecDepth 30000 in
theorem mf_Ev_holds : MFs y_Ev_holds b_Ev_holds 5 (some .boolean) 3 := ⟨⟨UW_of (lw_at4 135 rfl) rfl, UW_of (lw_at1 8 rfl) rfl, ⟨by decide, by decide⟩, by decide +kernel, by decide⟩, UW_of (lw_at4 134 rfl) rfl⟩
set_option maxRecDepth 30000 in
theorem mf_Ki_isNumeric : MFs y_Ki_isNumeric b_Ki_isNumeric 1 (some .boolean) 1 := ⟨⟨UW_of (lw_at3 238 rfl) rfl, UW_of (lw_at1 11 rfl) rfl, ⟨by decide, by decide⟩, by decide +kernel, by decide⟩, UW_of (lw_at3 237 rfl) rfl⟩
set_option maxRecDepth 30000 in
theorem mf_Ki_isClass : MFs y_Ki_isClass b_Ki_isClass 1 (some .boolean) 1 := ⟨⟨UW_of (lw_at2 20 rfl) rfl, UW_of (lw_at1 11 rfl) rfl, ⟨by decide, by decide⟩, by decide +kernel, by decide⟩, UW_of (lw_at2 19 rfl) rfl⟩
set_option maxRecDepth 30000 in
theorem mf_Ki_isArray : MFs y_Ki_isArray b_Ki_isArray 1 (some .boolean) 1 := ⟨⟨UW_of (lw_at2 47 rfl) rfl, UW_of (lw_at1 11 rfl) rfl, ⟨by decide, by decide⟩, by decide +kernel, by decide⟩, UW_of (lw_at2 46 rfl) rfl⟩
set_option maxRecDepth 30000 in
theorem mf_Ki_isReference : MFs y_Ki_isReference b_Ki_isReference 1 (some .boolean) 1 := ⟨⟨UW_of (lw_at2 50 rfl) rfl, UW_of (lw_at1 11 rfl) rfl, ⟨by decide, by decide⟩, by decide +kernel, by decide⟩, UW_of (lw_at2 49 rfl) rfl⟩
set_option maxRecDepth 30000 in
theorem mf_Ki_elementOf : MFs y_Ki_elementOf b_Ki_elementOf 1 (some .int) 1 := ⟨⟨UW_of (lw_at2 99 rfl) rfl, UW_of (lw_at1 11 rfl) rfl, ⟨by decide, by decide⟩, by decide +kernel, by decide⟩, UW_of (lw_at2 98 rfl) rfl⟩
set_option maxRecDepth 30000 in
theorem mf_Ki_arrayOf : MFs y_Ki_arrayOf b_Ki_arrayOf 1 (some .int) 1 := ⟨⟨UW_of (lw_at3 137 rfl) rfl, UW_of (lw_at1 11 rfl) rfl, ⟨by decide, by decide⟩, by decide +kernel, by decide⟩, UW_of (lw_at3 136 rfl) rfl⟩
set_option maxRecDepth 30000 in
theorem mf_Ki_common : MFs y_Ki_common b_Ki_common 2 (some .int) 2 := ⟨⟨UW_of (lw_at4 15 rfl) rfl, UW_of (lw_at1 11 rfl) rfl, ⟨by decide, by decide⟩, by decide +kernel, by decide⟩, UW_of (lw_at4 14 rfl) rfl⟩
set_option maxRecDepth 30000 in
theorem mf_Ki_promoted : MFs y_Ki_promoted b_Ki_promoted 1 (some .int) 1 := ⟨⟨UW_of (lw_at4 12 rfl) rfl, UW_of (lw_at1 11 rfl) rfl, ⟨by decide, by decide⟩, by decide +kernel, by decide⟩, UW_of (lw_at4 11 rfl) rfl⟩
set_option maxRecDepth 30000 in
theorem mf_Ki_areBoolean : MFs y_Ki_areBoolean b_Ki_areBoolean 2 (some .boolean) 2 := ⟨⟨UW_of (lw_at4 1 rfl) rfl, UW_of (lw_at1 11 rfl) rfl, ⟨by decide, by decide⟩, by decide +kernel, by decide⟩, UW_of (lw_at4 0 rfl) rfl⟩
set_option maxRecDepth 30000 in
theorem mf_Ki_narrowed : MFs y_Ki_narrowed b_Ki_narrowed 3 (some .long) 2 := ⟨⟨UW_of (lw_at2 72 rfl) rfl, UW_of (lw_at1 11 rfl) rfl, ⟨by decide, by decide⟩, by decide +kernel, by decide⟩, UW_of (lw_at2 71 rfl) rfl⟩
set_option maxRecDepth 30000 in
theorem mf_Li_init : MFi y_Li_init b_Li_init 1 0 := ⟨⟨UW_of (lw_at1 71 rfl) rfl, UW_of (lw_at1 4 rfl) rfl, ⟨by decide, by decide⟩, by decide +kernel, by decide⟩, UW_of (lw_at1 70 rfl) rfl, rfl⟩
set_option maxRecDepth 30000 in
theorem mf_Li_switchTo : MFv y_Li_switchTo b_Li_switchTo 2 (some .boolean) 1 := ⟨⟨UW_of (lw_at2 132 rfl) rfl, UW_of (lw_at1 4 rfl) rfl, ⟨by decide, by decide⟩, by decide +kernel, by decide⟩, UW_of (lw_at2 130 rfl) rfl, UW_of (lw_at2 131 rfl) rfl⟩
set_option maxRecDepth 30000 in
theorem mf_Li_knows : MFv y_Li_knows b_Li_knows 2 (some .boolean) 1 := ⟨⟨UW_of (lw_at4 68 rfl) rfl, UW_of (lw_at1 4 rfl) rfl, ⟨by decide, by decide⟩, by decide +kernel, by decide⟩, UW_of (lw_at4 66 rfl) rfl, UW_of (lw_at4 67 rfl) rfl⟩
set_option maxRecDepth 30000 in
theorem mf_Li_learn : MFv y_Li_learn b_Li_learn 2 none 1 := ⟨⟨UW_of (lw_at4 172 rfl) rfl, UW_of (lw_at1 4 rfl) rfl, ⟨by decide, by decide⟩, by decide +kernel, by decide⟩, UW_of (lw_at4 170 rfl) rfl, UW_of (lw_at4 171 rfl) rfl⟩
set_option maxRecDepth 30000 in
theorem mf_Li_ask : MFv y_Li_ask b_Li_ask 3 (some .boolean) 1 := ⟨⟨UW_of (lw_at4 72 rfl) rfl, UW_of (lw_at1 4 rfl) rfl, ⟨by decide, by decide⟩, by decide +kernel, by decide⟩, UW_of (lw_at4 70 rfl) rfl, UW_of (lw_at4 71 rfl) rfl⟩
set_option maxRecDepth 30000 in
theorem mf_Li_hasRequest : MFv y_Li_hasRequest b_Li_hasRequest 2 (some .boolean) 1 := ⟨⟨UW_of (lw_at4 148 rfl) rfl, UW_of (lw_at1 4 rfl) rfl, ⟨by decide, by decide⟩, by decide +kernel, by decide⟩, UW_of (lw_at4 146 rfl) rfl, UW_of (lw_at4 147 rfl) rfl⟩
set_option maxRecDepth 30000 in
theorem mf_Li_placeAsked : MFv y_Li_placeAsked b_Li_placeAsked 2 (some .int) 1 := ⟨⟨UW_of (lw_at4 152 rfl) rfl, UW_of (lw_at1 4 rfl) rfl, ⟨by decide, by decide⟩, by decide +kernel, by decide⟩, UW_of (lw_at4 150 rfl) rfl, UW_of (lw_at4 151 rfl) rfl⟩
set_option maxRecDepth 30000 in
theorem mf_Li_sentBefore : MFv y_Li_sentBefore b_Li_sentBefore 2 (some .int) 1 := ⟨⟨UW_of (lw_at4 160 rfl) rfl, UW_of (lw_at1 4 rfl) rfl, ⟨by decide, by decide⟩, by decide +kernel, by decide⟩, UW_of (lw_at4 158 rfl) rfl, UW_of (lw_at4 159 rfl) rfl⟩
set_option maxRecDepth 30000 in
theorem mf_Li_drop : MFv y_Li_drop b_Li_drop 3 none 1 := ⟨⟨UW_of (lw_at4 168 rfl) rfl, UW_of (lw_at1 4 rfl) rfl, ⟨by decide, by decide⟩, by decide +kernel, by decide⟩, UW_of (lw_at4 166 rfl) rfl, UW_of (lw_at4 167 rfl) rfl⟩
set_option maxRecDepth 30000 in
theorem mf_Li_forget : MFv y_Li_forget b_Li_forget 1 none 0 := ⟨⟨UW_of (lw_at2 115 rfl) rfl, UW_of (lw_at1 4 rfl) rfl, ⟨by decide, by decide⟩, by decide +kernel, by decide⟩, UW_of (lw_at2 113 rfl) rfl, UW_of (lw_at2 114 rfl) rfl⟩
set_option maxRecDepth 30000 in
theorem mf_Li_waitingCount : MFv y_Li_waitingCount b_Li_waitingCount 1 (some .int) 0 := ⟨⟨UW_of (lw_at4 209 rfl) rfl, UW_of (lw_at1 4 rfl) rfl, ⟨by decide, by decide⟩, by decide +kernel, by decide⟩, UW_of (lw_at4 207 rfl) rfl, UW_of (lw_at4 208 rfl) rfl⟩
set_option maxRecDepth 30000 in
theorem mf_Li_sentCount : MFv y_Li_sentCount b_Li_sentCount 1 (some .int) 0 := ⟨⟨UW_of (lw_at4 213 rfl) rfl, UW_of (lw_at1 4 rfl) rfl, ⟨by decide, by decide⟩, by decide +kernel, by decide⟩, UW_of (lw_at4 211 rfl) rfl, UW_of (lw_at4 212 rfl) rfl⟩
set_option maxRecDepth 30000 in
theorem mf_Li_knownCount : MFv y_Li_knownCount b_Li_knownCount 6 (some .int) 0 := ⟨⟨UW_of (lw_at4 217 rfl) rfl, UW_of (lw_at1 4 rfl) rfl, ⟨by decide, by decide⟩, by decide +kernel, by decide⟩, UW_of (lw_at4 215 rfl) rfl, UW_of (lw_at4 216 rfl) rfl⟩
set_option maxRecDepth 30000 in
theorem mf_Re_init : MFi y_Re_init b_Re_init 1 0 := ⟨⟨UW_of (lw_at1 96 rfl) rfl, UW_of (lw_at1 5 rfl) rfl, ⟨by decide, by decide⟩, by decide +kernel, by decide⟩, UW_of (lw_at1 95 rfl) rfl, rfl⟩
set_option maxRecDepth 30000 in
theorem mf_Re_reads : MFv y_Re_reads b_Re_reads 4 (some .boolean) 3 := ⟨⟨UW_of (lw_at2 162 rfl) rfl, UW_of (lw_at1 5 rfl) rfl, ⟨by decide, by decide⟩, by decide +kernel, by decide⟩, UW_of (lw_at2 160 rfl) rfl, UW_of (lw_at2 161 rfl) rfl⟩
set_option maxRecDepth 30000 in
theorem mf_Re_takes : MFv y_Re_takes b_Re_takes 2 (some .boolean) 1 := ⟨⟨UW_of (lw_at3 134 rfl) rfl, UW_of (lw_at1 5 rfl) rfl, ⟨by decide, by decide⟩, by decide +kernel, by decide⟩, UW_of (lw_at3 133 rfl) rfl, UW_of (lw_at 22 rfl) rfl⟩
set_option maxRecDepth 30000 in
theorem mf_Re_readChoice : MFv y_Re_readChoice b_Re_readChoice 7 (some .int) 1 := ⟨⟨UW_of (lw_at3 110 rfl) rfl, UW_of (lw_at1 5 rfl) rfl, ⟨by decide, by decide⟩, by decide +kernel, by decide⟩, UW_of (lw_at3 109 rfl) rfl, UW_of (lw_at 18 rfl) rfl⟩
set_option maxRecDepth 30000 in
theorem mf_Re_readBinary : MFv y_Re_readBinary b_Re_readBinary 7 (some .int) 2 := ⟨⟨UW_of (lw_at3 114 rfl) rfl, UW_of (lw_at1 5 rfl) rfl, ⟨by decide, by decide⟩, by decide +kernel, by decide⟩, UW_of (lw_at3 113 rfl) rfl, UW_of (lw_at 19 rfl) rfl⟩
set_option maxRecDepth 30000 in
theorem mf_Re_readClassBehind : MFv y_Re_readClassBehind b_Re_readClassBehind 3 (some .int) 1 := ⟨⟨UW_of (lw_at3 189 rfl) rfl, UW_of (lw_at1 5 rfl) rfl, ⟨by decide, by decide⟩, by decide +kernel, by decide⟩, UW_of (lw_at3 188 rfl) rfl, UW_of (lw_at 29 rfl) rfl⟩
set_option maxRecDepth 30000 in
theorem mf_Re_readRight : MFv y_Re_readRight b_Re_readRight 6 (some .int) 3 := ⟨⟨UW_of (lw_at3 194 rfl) rfl, UW_of (lw_at1 5 rfl) rfl, ⟨by decide, by decide⟩, by decide +kernel, by decide⟩, UW_of (lw_at3 193 rfl) rfl, UW_of (lw_at 30 rfl) rfl⟩
set_option maxRecDepth 30000 in
theorem mf_Re_levelOf : MFs y_Re_levelOf b_Re_levelOf 1 (some .int) 1 := ⟨⟨UW_of (lw_at3 185 rfl) rfl, UW_of (lw_at1 5 rfl) rfl, ⟨by decide, by decide⟩, by decide +kernel, by decide⟩, UW_of (lw_at3 184 rfl) rfl⟩
set_option maxRecDepth 30000 in
theorem mf_Re_readUnary : MFv y_Re_readUnary b_Re_readUnary 5 (some .int) 1 := ⟨⟨UW_of (lw_at3 118 rfl) rfl, UW_of (lw_at1 5 rfl) rfl, ⟨by decide, by decide⟩, by decide +kernel, by decide⟩, UW_of (lw_at3 117 rfl) rfl, UW_of (lw_at 20 rfl) rfl⟩
set_option maxRecDepth 30000 in
theorem mf_Re_unaryCode : MFs y_Re_unaryCode b_Re_unaryCode 1 (some .int) 1 := ⟨⟨UW_of (lw_at3 149 rfl) rfl, UW_of (lw_at1 5 rfl) rfl, ⟨by decide, by decide⟩, by decide +kernel, by decide⟩, UW_of (lw_at3 148 rfl) rfl⟩
set_option maxRecDepth 30000 in
theorem mf_Re_isTooLarge : MFv y_Re_isTooLarge b_Re_isTooLarge 1 (some .boolean) 0 := ⟨⟨UW_of (lw_at3 165 rfl) rfl, UW_of (lw_at1 5 rfl) rfl, ⟨by decide, by decide⟩, by decide +kernel, by decide⟩, UW_of (lw_at3 164 rfl) rfl, UW_of (lw_at 26 rfl) rfl⟩
set_option maxRecDepth 30000 in
theorem mf_Re_readCast : MFv y_Re_readCast b_Re_readCast 4 (some .int) 1 := ⟨⟨UW_of (lw_at3 126 rfl) rfl, UW_of (lw_at1 5 rfl) rfl, ⟨by decide, by decide⟩, by decide +kernel, by decide⟩, UW_of (lw_at3 125 rfl) rfl, UW_of (lw_at 21 rfl) rfl⟩
set_option maxRecDepth 30000 in
theorem mf_Re_readOperand : MFv y_Re_readOperand b_Re_readOperand 5 (some .int) 1 := ⟨⟨UW_of (lw_at3 153 rfl) rfl, UW_of (lw_at1 5 rfl) rfl, ⟨by decide, by decide⟩, by decide +kernel, by decide⟩, UW_of (lw_at3 152 rfl) rfl, UW_of (lw_at 23 rfl) rfl⟩
set_option maxRecDepth 30000 in
theorem mf_Re_readFirst : MFv y_Re_readFirst b_Re_readFirst 3 (some .int) 1 := ⟨⟨UW_of (lw_at3 157 rfl) rfl, UW_of (lw_at1 5 rfl) rfl, ⟨by decide, by decide⟩, by decide +kernel, by decide⟩, UW_of (lw_at3 156 rfl) rfl, UW_of (lw_at 24 rfl) rfl⟩
set_option maxRecDepth 30000 in
theorem mf_Re_readConstant : MFv y_Re_readConstant b_Re_readConstant 1 (some .int) 0 := ⟨⟨UW_of (lw_at3 174 rfl) rfl, UW_of (lw_at1 5 rfl) rfl, ⟨by decide, by decide⟩, by decide +kernel, by decide⟩, UW_of (lw_at3 173 rfl) rfl, UW_of (lw_at 27 rfl) rfl⟩
set_option maxRecDepth 30000 in
theorem mf_Re_readEnclosed : MFv y_Re_readEnclosed b_Re_readEnclosed 4 (some .int) 2 := ⟨⟨UW_of (lw_at3 161 rfl) rfl, UW_of (lw_at1 5 rfl) rfl, ⟨by decide, by decide⟩, by decide +kernel, by decide⟩, UW_of (lw_at3 160 rfl) rfl, UW_of (lw_at 25 rfl) rfl⟩
set_option maxRecDepth 30000 in
theorem mf_Re_readPart : MFv y_Re_readPart b_Re_readPart 3 (some .int) 1 := ⟨⟨UW_of (lw_at3 182 rfl) rfl, UW_of (lw_at1 5 rfl) rfl, ⟨by decide, by decide⟩, by decide +kernel, by decide⟩, UW_of (lw_at3 181 rfl) rfl, UW_of (lw_at 28 rfl) rfl⟩
set_option maxRecDepth 30000 in
theorem mf_St_init : MFi y_St_init b_St_init 1 0 := ⟨⟨UW_of (lw_at1 161 rfl) rfl, UW_of (lw_at1 9 rfl) rfl, ⟨by decide, by decide⟩, by decide +kernel, by decide⟩, UW_of (lw_at1 160 rfl) rfl, rfl⟩
set_option maxRecDepth 30000 in
theorem mf_St_clear : MFv y_St_clear b_St_clear 1 none 0 := ⟨⟨UW_of (lw_at2 166 rfl) rfl, UW_of (lw_at1 9 rfl) rfl, ⟨by decide, by decide⟩, by decide +kernel, by decide⟩, UW_of (lw_at2 164 rfl) rfl, UW_of (lw_at2 165 rfl) rfl⟩
set_option maxRecDepth 30000 in
theorem mf_St_size : MFv y_St_size b_St_size 1 (some .int) 0 := ⟨⟨UW_of (lw_at3 198 rfl) rfl, UW_of (lw_at1 9 rfl) rfl, ⟨by decide, by decide⟩, by decide +kernel, by decide⟩, UW_of (lw_at3 196 rfl) rfl, UW_of (lw_at3 197 rfl) rfl⟩
set_option maxRecDepth 30000 in
theorem mf_St_codeAt : MFv y_St_codeAt b_St_codeAt 2 (some .int) 1 := ⟨⟨UW_of (lw_at3 228 rfl) rfl, UW_of (lw_at1 9 rfl) rfl, ⟨by decide, by decide⟩, by decide +kernel, by decide⟩, UW_of (lw_at3 226 rfl) rfl, UW_of (lw_at3 227 rfl) rfl⟩
set_option maxRecDepth 30000 in
theorem mf_St_firstOf : MFv y_St_firstOf b_St_firstOf 2 (some .int) 1 := ⟨⟨UW_of (lw_at3 216 rfl) rfl, UW_of (lw_at1 9 rfl) rfl, ⟨by decide, by decide⟩, by decide +kernel, by decide⟩, UW_of (lw_at3 214 rfl) rfl, UW_of (lw_at3 215 rfl) rfl⟩
set_option maxRecDepth 30000 in
theorem mf_St_secondOf : MFv y_St_secondOf b_St_secondOf 2 (some .int) 1 := ⟨⟨UW_of (lw_at3 224 rfl) rfl, UW_of (lw_at1 9 rfl) rfl, ⟨by decide, by decide⟩, by decide +kernel, by decide⟩, UW_of (lw_at3 222 rfl) rfl, UW_of (lw_at3 223 rfl) rfl⟩
set_option maxRecDepth 30000 in
theorem mf_St_thirdOf : MFv y_St_thirdOf b_St_thirdOf 2 (some .int) 1 := ⟨⟨UW_of (lw_at4 20 rfl) rfl, UW_of (lw_at1 9 rfl) rfl, ⟨by decide, by decide⟩, by decide +kernel, by decide⟩, UW_of (lw_at4 18 rfl) rfl, UW_of (lw_at4 19 rfl) rfl⟩
set_option maxRecDepth 30000 in
theorem mf_St_kindAt : MFv y_St_kindAt b_St_kindAt 2 (some .int) 1 := ⟨⟨UW_of (lw_at3 220 rfl) rfl, UW_of (lw_at1 9 rfl) rfl, ⟨by decide, by decide⟩, by decide +kernel, by decide⟩, UW_of (lw_at3 218 rfl) rfl, UW_of (lw_at3 219 rfl) rfl⟩
set_option maxRecDepth 30000 in
theorem mf_St_setKind : MFv y_St_setKind b_St_setKind 3 none 2 := ⟨⟨UW_of (lw_at4 38 rfl) rfl, UW_of (lw_at1 9 rfl) rfl, ⟨by decide, by decide⟩, by decide +kernel, by decide⟩, UW_of (lw_at4 36 rfl) rfl, UW_of (lw_at4 37 rfl) rfl⟩
set_option maxRecDepth 30000 in
theorem mf_St_valueAt : MFv y_St_valueAt b_St_valueAt 2 (some .long) 1 := ⟨⟨UW_of (lw_at4 53 rfl) rfl, UW_of (lw_at1 9 rfl) rfl, ⟨by decide, by decide⟩, by decide +kernel, by decide⟩, UW_of (lw_at4 51 rfl) rfl, UW_of (lw_at4 52 rfl) rfl⟩
set_option maxRecDepth 30000 in
theorem mf_St_setValue : MFv y_St_setValue b_St_setValue 4 none 2 := ⟨⟨UW_of (lw_at4 84 rfl) rfl, UW_of (lw_at1 9 rfl) rfl, ⟨by decide, by decide⟩, by decide +kernel, by decide⟩, UW_of (lw_at4 82 rfl) rfl, UW_of (lw_at4 83 rfl) rfl⟩
set_option maxRecDepth 30000 in
theorem mf_St_add : MFv y_St_add b_St_add 4 (some .int) 3 := ⟨⟨UW_of (lw_at3 142 rfl) rfl, UW_of (lw_at1 9 rfl) rfl, ⟨by decide, by decide⟩, by decide +kernel, by decide⟩, UW_of (lw_at3 140 rfl) rfl, UW_of (lw_at3 141 rfl) rfl⟩
set_option maxRecDepth 30000 in
theorem mf_St_addThree : MFv y_St_addThree b_St_addThree 5 (some .int) 4 := ⟨⟨UW_of (lw_at3 146 rfl) rfl, UW_of (lw_at1 9 rfl) rfl, ⟨by decide, by decide⟩, by decide +kernel, by decide⟩, UW_of (lw_at3 144 rfl) rfl, UW_of (lw_at3 145 rfl) rfl⟩
set_option maxRecDepth 30000 in
theorem mf_St_addConstant : MFv y_St_addConstant b_St_addConstant 5 (some .int) 2 := ⟨⟨UW_of (lw_at3 178 rfl) rfl, UW_of (lw_at1 9 rfl) rfl, ⟨by decide, by decide⟩, by decide +kernel, by decide⟩, UW_of (lw_at3 176 rfl) rfl, UW_of (lw_at3 177 rfl) rfl⟩
set_option maxRecDepth 30000 in
theorem mf_St_leadSkip : MFv y_St_leadSkip b_St_leadSkip 3 none 2 := ⟨⟨UW_of (lw_at3 202 rfl) rfl, UW_of (lw_at1 9 rfl) rfl, ⟨by decide, by decide⟩, by decide +kernel, by decide⟩, UW_of (lw_at3 200 rfl) rfl, UW_of (lw_at3 201 rfl) rfl⟩
set_option maxRecDepth 30000 in
theorem mf_Ta_init : MFi y_Ta_init b_Ta_init 1 0 := ⟨⟨UW_of (lw_at1 34 rfl) rfl, UW_of (lw_at1 2 rfl) rfl, ⟨by decide, by decide⟩, by decide +kernel, by decide⟩, UW_of (lw_at1 33 rfl) rfl, rfl⟩
set_option maxRecDepth 30000 in
theorem mf_Ta_runs : MFv y_Ta_runs b_Ta_runs 1 (some .boolean) 0 := ⟨⟨UW_of (lw_at2 147 rfl) rfl, UW_of (lw_at1 2 rfl) rfl, ⟨by decide, by decide⟩, by decide +kernel, by decide⟩, UW_of (lw_at2 145 rfl) rfl, UW_of (lw_at2 146 rfl) rfl⟩
set_option maxRecDepth 30000 in
theorem mf_Ta_switchTo : MFv y_Ta_switchTo b_Ta_switchTo 2 (some .boolean) 1 := ⟨⟨UW_of (lw_at2 107 rfl) rfl, UW_of (lw_at1 2 rfl) rfl, ⟨by decide, by decide⟩, by decide +kernel, by decide⟩, UW_of (lw_at2 105 rfl) rfl, UW_of (lw_at2 106 rfl) rfl⟩
set_option maxRecDepth 30000 in
theorem mf_Ta_extendClass : MFv y_Ta_extendClass b_Ta_extendClass 2 (some .int) 1 := ⟨⟨UW_of (lw_at2 5 rfl) rfl, UW_of (lw_at1 2 rfl) rfl, ⟨by decide, by decide⟩, by decide +kernel, by decide⟩, UW_of (lw_at2 3 rfl) rfl, UW_of (lw_at2 4 rfl) rfl⟩
set_option maxRecDepth 30000 in
theorem mf_Ta_declareField : MFv y_Ta_declareField b_Ta_declareField 4 (some .boolean) 3 := ⟨⟨UW_of (lw_at2 13 rfl) rfl, UW_of (lw_at1 2 rfl) rfl, ⟨by decide, by decide⟩, by decide +kernel, by decide⟩, UW_of (lw_at2 11 rfl) rfl, UW_of (lw_at2 12 rfl) rfl⟩
set_option maxRecDepth 30000 in
theorem mf_Ta_declareVariable : MFv y_Ta_declareVariable b_Ta_declareVariable 3 (some .boolean) 2 := ⟨⟨UW_of (lw_at2 36 rfl) rfl, UW_of (lw_at1 2 rfl) rfl, ⟨by decide, by decide⟩, by decide +kernel, by decide⟩, UW_of (lw_at2 34 rfl) rfl, UW_of (lw_at2 35 rfl) rfl⟩
set_option maxRecDepth 30000 in
theorem mf_Ta_create : MFv y_Ta_create b_Ta_create 4 (some .int) 2 := ⟨⟨UW_of (lw_at2 44 rfl) rfl, UW_of (lw_at1 2 rfl) rfl, ⟨by decide, by decide⟩, by decide +kernel, by decide⟩, UW_of (lw_at2 42 rfl) rfl, UW_of (lw_at2 43 rfl) rfl⟩
set_option maxRecDepth 30000 in
theorem mf_Ta_storeVariable : MFv y_Ta_storeVariable b_Ta_storeVariable 4 (some .boolean) 2 := ⟨⟨UW_of (lw_at2 61 rfl) rfl, UW_of (lw_at1 2 rfl) rfl, ⟨by decide, by decide⟩, by decide +kernel, by decide⟩, UW_of (lw_at2 59 rfl) rfl, UW_of (lw_at2 60 rfl) rfl⟩
set_option maxRecDepth 30000 in
theorem mf_Ta_storePart : MFv y_Ta_storePart b_Ta_storePart 5 (some .boolean) 3 := ⟨⟨UW_of (lw_at2 88 rfl) rfl, UW_of (lw_at1 2 rfl) rfl, ⟨by decide, by decide⟩, by decide +kernel, by decide⟩, UW_of (lw_at2 86 rfl) rfl, UW_of (lw_at2 87 rfl) rfl⟩
set_option maxRecDepth 30000 in
theorem mf_Ta_kindOfVariable : MFv y_Ta_kindOfVariable b_Ta_kindOfVariable 2 (some .int) 1 := ⟨⟨UW_of (lw_at2 65 rfl) rfl, UW_of (lw_at1 2 rfl) rfl, ⟨by decide, by decide⟩, by decide +kernel, by decide⟩, UW_of (lw_at2 63 rfl) rfl, UW_of (lw_at2 64 rfl) rfl⟩
set_option maxRecDepth 30000 in
theorem mf_Ta_kindOfField : MFv y_Ta_kindOfField b_Ta_kindOfField 5 (some .int) 2 := ⟨⟨UW_of (lw_at2 96 rfl) rfl, UW_of (lw_at1 2 rfl) rfl, ⟨by decide, by decide⟩, by decide +kernel, by decide⟩, UW_of (lw_at2 94 rfl) rfl, UW_of (lw_at2 95 rfl) rfl⟩
set_option maxRecDepth 30000 in
theorem mf_Ta_isThere : MFv y_Ta_isThere b_Ta_isThere 2 (some .boolean) 1 := ⟨⟨UW_of (lw_at2 17 rfl) rfl, UW_of (lw_at1 2 rfl) rfl, ⟨by decide, by decide⟩, by decide +kernel, by decide⟩, UW_of (lw_at2 15 rfl) rfl, UW_of (lw_at2 16 rfl) rfl⟩
set_option maxRecDepth 30000 in
theorem mf_Ta_fits : MFv y_Ta_fits b_Ta_fits 3 (some .boolean) 2 := ⟨⟨UW_of (lw_at2 80 rfl) rfl, UW_of (lw_at1 2 rfl) rfl, ⟨by decide, by decide⟩, by decide +kernel, by decide⟩, UW_of (lw_at2 78 rfl) rfl, UW_of (lw_at2 79 rfl) rfl⟩
set_option maxRecDepth 30000 in
theorem mf_Ta_areRelated : MFv y_Ta_areRelated b_Ta_areRelated 3 (some .boolean) 2 := ⟨⟨UW_of (lw_at4 6 rfl) rfl, UW_of (lw_at1 2 rfl) rfl, ⟨by decide, by decide⟩, by decide +kernel, by decide⟩, UW_of (lw_at4 4 rfl) rfl, UW_of (lw_at4 5 rfl) rfl⟩
set_option maxRecDepth 30000 in
theorem mf_Ta_contentsOf : MFv y_Ta_contentsOf b_Ta_contentsOf 2 (some .long) 1 := ⟨⟨UW_of (lw_at4 76 rfl) rfl, UW_of (lw_at1 2 rfl) rfl, ⟨by decide, by decide⟩, by decide +kernel, by decide⟩, UW_of (lw_at4 74 rfl) rfl, UW_of (lw_at4 75 rfl) rfl⟩
set_option maxRecDepth 30000 in
theorem mf_Ta_sortOfPiece : MFv y_Ta_sortOfPiece b_Ta_sortOfPiece 3 (some .int) 2 := ⟨⟨UW_of (lw_at4 156 rfl) rfl, UW_of (lw_at1 2 rfl) rfl, ⟨by decide, by decide⟩, by decide +kernel, by decide⟩, UW_of (lw_at4 154 rfl) rfl, UW_of (lw_at4 155 rfl) rfl⟩
set_option maxRecDepth 30000 in
theorem mf_Ta_kindOfObject : MFv y_Ta_kindOfObject b_Ta_kindOfObject 2 (some .int) 1 := ⟨⟨UW_of (lw_at2 76 rfl) rfl, UW_of (lw_at1 2 rfl) rfl, ⟨by decide, by decide⟩, by decide +kernel, by decide⟩, UW_of (lw_at2 75 rfl) rfl, UW_of (lw_at 3 rfl) rfl⟩
set_option maxRecDepth 30000 in
theorem mf_Ta_kindOfPart : MFv y_Ta_kindOfPart b_Ta_kindOfPart 5 (some .int) 2 := ⟨⟨UW_of (lw_at2 92 rfl) rfl, UW_of (lw_at1 2 rfl) rfl, ⟨by decide, by decide⟩, by decide +kernel, by decide⟩, UW_of (lw_at2 91 rfl) rfl, UW_of (lw_at 4 rfl) rfl⟩
set_option maxRecDepth 30000 in
theorem mf_Ta_isValue : MFv y_Ta_isValue b_Ta_isValue 4 (some .boolean) 2 := ⟨⟨UW_of (lw_at2 69 rfl) rfl, UW_of (lw_at1 2 rfl) rfl, ⟨by decide, by decide⟩, by decide +kernel, by decide⟩, UW_of (lw_at2 68 rfl) rfl, UW_of (lw_at 2 rfl) rfl⟩
set_option maxRecDepth 30000 in
theorem mf_Ta_isA : MFv y_Ta_isA b_Ta_isA 5 (some .boolean) 2 := ⟨⟨UW_of (lw_at2 28 rfl) rfl, UW_of (lw_at1 2 rfl) rfl, ⟨by decide, by decide⟩, by decide +kernel, by decide⟩, UW_of (lw_at2 27 rfl) rfl, UW_of (lw_at 1 rfl) rfl⟩
set_option maxRecDepth 30000 in
theorem mf_Ta_isFieldNear : MFv y_Ta_isFieldNear b_Ta_isFieldNear 5 (some .boolean) 2 := ⟨⟨UW_of (lw_at2 24 rfl) rfl, UW_of (lw_at1 2 rfl) rfl, ⟨by decide, by decide⟩, by decide +kernel, by decide⟩, UW_of (lw_at2 23 rfl) rfl, UW_of (lw_at 0 rfl) rfl⟩
set_option maxRecDepth 30000 in
theorem mf_To_init : MFi y_To_init b_To_init 1 0 := ⟨⟨UW_of (lw_at1 102 rfl) rfl, UW_of (lw_at1 6 rfl) rfl, ⟨by decide, by decide⟩, by decide +kernel, by decide⟩, UW_of (lw_at1 101 rfl) rfl, rfl⟩
set_option maxRecDepth 30000 in
theorem mf_To_split : MFv y_To_split b_To_split 5 (some .boolean) 2 := ⟨⟨UW_of (lw_at2 170 rfl) rfl, UW_of (lw_at1 6 rfl) rfl, ⟨by decide, by decide⟩, by decide +kernel, by decide⟩, UW_of (lw_at2 168 rfl) rfl, UW_of (lw_at2 169 rfl) rfl⟩
set_option maxRecDepth 30000 in
theorem mf_To_codeAt : MFv y_To_codeAt b_To_codeAt 2 (some .int) 1 := ⟨⟨UW_of (lw_at3 122 rfl) rfl, UW_of (lw_at1 6 rfl) rfl, ⟨by decide, by decide⟩, by decide +kernel, by decide⟩, UW_of (lw_at3 120 rfl) rfl, UW_of (lw_at3 121 rfl) rfl⟩
set_option maxRecDepth 30000 in
theorem mf_To_numberAt : MFv y_To_numberAt b_To_numberAt 2 (some .long) 1 := ⟨⟨UW_of (lw_at3 130 rfl) rfl, UW_of (lw_at1 6 rfl) rfl, ⟨by decide, by decide⟩, by decide +kernel, by decide⟩, UW_of (lw_at3 128 rfl) rfl, UW_of (lw_at3 129 rfl) rfl⟩
set_option maxRecDepth 30000 in
theorem mf_To_kindAt : MFv y_To_kindAt b_To_kindAt 2 (some .int) 1 := ⟨⟨UW_of (lw_at3 169 rfl) rfl, UW_of (lw_at1 6 rfl) rfl, ⟨by decide, by decide⟩, by decide +kernel, by decide⟩, UW_of (lw_at3 167 rfl) rfl, UW_of (lw_at3 168 rfl) rfl⟩
set_option maxRecDepth 30000 in
theorem mf_To_readToken : MFv y_To_readToken b_To_readToken 4 (some .int) 1 := ⟨⟨UW_of (lw_at2 174 rfl) rfl, UW_of (lw_at1 6 rfl) rfl, ⟨by decide, by decide⟩, by decide +kernel, by decide⟩, UW_of (lw_at2 173 rfl) rfl, UW_of (lw_at 6 rfl) rfl⟩
set_option maxRecDepth 30000 in
theorem mf_To_add : MFv y_To_add b_To_add 6 (some .int) 4 := ⟨⟨UW_of (lw_at2 189 rfl) rfl, UW_of (lw_at1 6 rfl) rfl, ⟨by decide, by decide⟩, by decide +kernel, by decide⟩, UW_of (lw_at2 188 rfl) rfl, UW_of (lw_at 9 rfl) rfl⟩
set_option maxRecDepth 30000 in
theorem mf_To_behindLetters : MFv y_To_behindLetters b_To_behindLetters 3 (some .int) 1 := ⟨⟨UW_of (lw_at2 181 rfl) rfl, UW_of (lw_at1 6 rfl) rfl, ⟨by decide, by decide⟩, by decide +kernel, by decide⟩, UW_of (lw_at2 180 rfl) rfl, UW_of (lw_at 7 rfl) rfl⟩
set_option maxRecDepth 30000 in
theorem mf_To_behindDigits : MFv y_To_behindDigits b_To_behindDigits 3 (some .int) 1 := ⟨⟨UW_of (lw_at3 28 rfl) rfl, UW_of (lw_at1 6 rfl) rfl, ⟨by decide, by decide⟩, by decide +kernel, by decide⟩, UW_of (lw_at3 27 rfl) rfl, UW_of (lw_at 13 rfl) rfl⟩
set_option maxRecDepth 30000 in
theorem mf_To_addLetter : MFv y_To_addLetter b_To_addLetter 3 (some .int) 2 := ⟨⟨UW_of (lw_at2 185 rfl) rfl, UW_of (lw_at1 6 rfl) rfl, ⟨by decide, by decide⟩, by decide +kernel, by decide⟩, UW_of (lw_at2 184 rfl) rfl, UW_of (lw_at 8 rfl) rfl⟩
set_option maxRecDepth 30000 in
theorem mf_To_addWord : MFv y_To_addWord b_To_addWord 3 (some .int) 2 := ⟨⟨UW_of (lw_at2 193 rfl) rfl, UW_of (lw_at1 6 rfl) rfl, ⟨by decide, by decide⟩, by decide +kernel, by decide⟩, UW_of (lw_at2 192 rfl) rfl, UW_of (lw_at 10 rfl) rfl⟩
set_option maxRecDepth 30000 in
theorem mf_To_stands : MFv y_To_stands b_To_stands 5 (some .boolean) 3 := ⟨⟨UW_of (lw_at2 198 rfl) rfl, UW_of (lw_at1 6 rfl) rfl, ⟨by decide, by decide⟩, by decide +kernel, by decide⟩, UW_of (lw_at2 197 rfl) rfl, UW_of (lw_at 11 rfl) rfl⟩
set_option maxRecDepth 30000 in
theorem mf_To_readNumber : MFv y_To_readNumber b_To_readNumber 9 (some .int) 1 := ⟨⟨UW_of (lw_at3 24 rfl) rfl, UW_of (lw_at1 6 rfl) rfl, ⟨by decide, by decide⟩, by decide +kernel, by decide⟩, UW_of (lw_at3 23 rfl) rfl, UW_of (lw_at 12 rfl) rfl⟩
set_option maxRecDepth 30000 in
theorem mf_To_readCharacter : MFv y_To_readCharacter b_To_readCharacter 3 (some .int) 1 := ⟨⟨UW_of (lw_at3 38 rfl) rfl, UW_of (lw_at1 6 rfl) rfl, ⟨by decide, by decide⟩, by decide +kernel, by decide⟩, UW_of (lw_at3 37 rfl) rfl, UW_of (lw_at 15 rfl) rfl⟩
set_option maxRecDepth 30000 in
theorem mf_To_readSign : MFv y_To_readSign b_To_readSign 4 (some .int) 1 := ⟨⟨UW_of (lw_at3 42 rfl) rfl, UW_of (lw_at1 6 rfl) rfl, ⟨by decide, by decide⟩, by decide +kernel, by decide⟩, UW_of (lw_at3 41 rfl) rfl, UW_of (lw_at 16 rfl) rfl⟩
set_option maxRecDepth 30000 in
theorem mf_To_signAt : MFv y_To_signAt b_To_signAt 4 (some .int) 1 := ⟨⟨UW_of (lw_at3 46 rfl) rfl, UW_of (lw_at1 6 rfl) rfl, ⟨by decide, by decide⟩, by decide +kernel, by decide⟩, UW_of (lw_at3 45 rfl) rfl, UW_of (lw_at 17 rfl) rfl⟩
set_option maxRecDepth 30000 in
theorem mf_To_charAt : MFv y_To_charAt b_To_charAt 2 (some .char) 1 := ⟨⟨UW_of (lw_at3 32 rfl) rfl, UW_of (lw_at1 6 rfl) rfl, ⟨by decide, by decide⟩, by decide +kernel, by decide⟩, UW_of (lw_at3 31 rfl) rfl, UW_of (lw_at 14 rfl) rfl⟩
set_option maxRecDepth 30000 in
theorem mf_To_isLetter : MFs y_To_isLetter b_To_isLetter 1 (some .boolean) 1 := ⟨⟨UW_of (lw_at2 177 rfl) rfl, UW_of (lw_at1 6 rfl) rfl, ⟨by decide, by decide⟩, by decide +kernel, by decide⟩, UW_of (lw_at2 176 rfl) rfl⟩
set_option maxRecDepth 30000 in
theorem mf_To_isDigit : MFs y_To_isDigit b_To_isDigit 1 (some .boolean) 1 := ⟨⟨UW_of (lw_at3 20 rfl) rfl, UW_of (lw_at1 6 rfl) rfl, ⟨by decide, by decide⟩, by decide +kernel, by decide⟩, UW_of (lw_at3 19 rfl) rfl⟩
set_option maxRecDepth 30000 in
theorem mf_De_init : MFi y_De_init b_De_init 6 0 := ⟨⟨UW_of (lw_at1 24 rfl) rfl, UW_of (lw_at1 1 rfl) rfl, ⟨by decide, by decide⟩, by decide +kernel, by decide⟩, UW_of (lw_at1 23 rfl) rfl, rfl⟩
set_option maxRecDepth 30000 in
theorem mf_De_addClass : MFv y_De_addClass b_De_addClass 2 (some .int) 1 := ⟨⟨UW_of (lw_at2 1 rfl) rfl, UW_of (lw_at1 1 rfl) rfl, ⟨by decide, by decide⟩, by decide +kernel, by decide⟩, UW_of (lw_at1 239 rfl) rfl, UW_of (lw_at2 0 rfl) rfl⟩
set_option maxRecDepth 30000 in
theorem mf_De_addField : MFv y_De_addField b_De_addField 4 (some .boolean) 3 := ⟨⟨UW_of (lw_at2 9 rfl) rfl, UW_of (lw_at1 1 rfl) rfl, ⟨by decide, by decide⟩, by decide +kernel, by decide⟩, UW_of (lw_at2 7 rfl) rfl, UW_of (lw_at2 8 rfl) rfl⟩
set_option maxRecDepth 30000 in
theorem mf_De_addVariable : MFv y_De_addVariable b_De_addVariable 3 (some .boolean) 2 := ⟨⟨UW_of (lw_at2 32 rfl) rfl, UW_of (lw_at1 1 rfl) rfl, ⟨by decide, by decide⟩, by decide +kernel, by decide⟩, UW_of (lw_at2 30 rfl) rfl, UW_of (lw_at2 31 rfl) rfl⟩
set_option maxRecDepth 30000 in
theorem mf_De_make : MFv y_De_make b_De_make 3 (some .int) 2 := ⟨⟨UW_of (lw_at2 40 rfl) rfl, UW_of (lw_at1 1 rfl) rfl, ⟨by decide, by decide⟩, by decide +kernel, by decide⟩, UW_of (lw_at2 38 rfl) rfl, UW_of (lw_at2 39 rfl) rfl⟩
set_option maxRecDepth 30000 in
theorem mf_De_setVariable : MFv y_De_setVariable b_De_setVariable 4 (some .boolean) 2 := ⟨⟨UW_of (lw_at2 57 rfl) rfl, UW_of (lw_at1 1 rfl) rfl, ⟨by decide, by decide⟩, by decide +kernel, by decide⟩, UW_of (lw_at2 55 rfl) rfl, UW_of (lw_at2 56 rfl) rfl⟩
set_option maxRecDepth 30000 in
theorem mf_De_setPart : MFv y_De_setPart b_De_setPart 5 (some .boolean) 3 := ⟨⟨UW_of (lw_at2 84 rfl) rfl, UW_of (lw_at1 1 rfl) rfl, ⟨by decide, by decide⟩, by decide +kernel, by decide⟩, UW_of (lw_at2 82 rfl) rfl, UW_of (lw_at2 83 rfl) rfl⟩
set_option maxRecDepth 30000 in
theorem mf_De_run : MFv y_De_run b_De_run 2 (some .boolean) 1 := ⟨⟨UW_of (lw_at2 103 rfl) rfl, UW_of (lw_at1 1 rfl) rfl, ⟨by decide, by decide⟩, by decide +kernel, by decide⟩, UW_of (lw_at2 101 rfl) rfl, UW_of (lw_at2 102 rfl) rfl⟩
set_option maxRecDepth 30000 in
theorem mf_De_line : MFv y_De_line b_De_line 2 (some .boolean) 1 := ⟨⟨UW_of (lw_at2 128 rfl) rfl, UW_of (lw_at1 1 rfl) rfl, ⟨by decide, by decide⟩, by decide +kernel, by decide⟩, UW_of (lw_at2 126 rfl) rfl, UW_of (lw_at2 127 rfl) rfl⟩
set_option maxRecDepth 30000 in
theorem mf_De_put : MFv y_De_put b_De_put 2 (some .boolean) 1 := ⟨⟨UW_of (lw_at2 136 rfl) rfl, UW_of (lw_at1 1 rfl) rfl, ⟨by decide, by decide⟩, by decide +kernel, by decide⟩, UW_of (lw_at2 134 rfl) rfl, UW_of (lw_at2 135 rfl) rfl⟩
set_option maxRecDepth 30000 in
theorem mf_De_eval : MFv y_De_eval b_De_eval 2 (some .int) 1 := ⟨⟨UW_of (lw_at2 140 rfl) rfl, UW_of (lw_at1 1 rfl) rfl, ⟨by decide, by decide⟩, by decide +kernel, by decide⟩, UW_of (lw_at2 138 rfl) rfl, UW_of (lw_at2 139 rfl) rfl⟩
set_option maxRecDepth 30000 in
theorem mf_De_again : MFv y_De_again b_De_again 2 (some .int) 1 := ⟨⟨UW_of (lw_at4 140 rfl) rfl, UW_of (lw_at1 1 rfl) rfl, ⟨by decide, by decide⟩, by decide +kernel, by decide⟩, UW_of (lw_at4 138 rfl) rfl, UW_of (lw_at4 139 rfl) rfl⟩
set_option maxRecDepth 30000 in
theorem mf_De_request : MFv y_De_request b_De_request 6 (some .int) 2 := ⟨⟨UW_of (lw_at4 144 rfl) rfl, UW_of (lw_at1 1 rfl) rfl, ⟨by decide, by decide⟩, by decide +kernel, by decide⟩, UW_of (lw_at4 142 rfl) rfl, UW_of (lw_at4 143 rfl) rfl⟩
set_option maxRecDepth 30000 in
theorem mf_De_answer : MFv y_De_answer b_De_answer 5 (some .int) 1 := ⟨⟨UW_of (lw_at4 164 rfl) rfl, UW_of (lw_at1 1 rfl) rfl, ⟨by decide, by decide⟩, by decide +kernel, by decide⟩, UW_of (lw_at4 162 rfl) rfl, UW_of (lw_at4 163 rfl) rfl⟩
set_option maxRecDepth 30000 in
theorem mf_De_refuse : MFv y_De_refuse b_De_refuse 5 (some .int) 1 := ⟨⟨UW_of (lw_at4 181 rfl) rfl, UW_of (lw_at1 1 rfl) rfl, ⟨by decide, by decide⟩, by decide +kernel, by decide⟩, UW_of (lw_at4 179 rfl) rfl, UW_of (lw_at4 180 rfl) rfl⟩
set_option maxRecDepth 30000 in
theorem mf_De_look : MFv y_De_look b_De_look 3 (some .int) 2 := ⟨⟨UW_of (lw_at4 185 rfl) rfl, UW_of (lw_at1 1 rfl) rfl, ⟨by decide, by decide⟩, by decide +kernel, by decide⟩, UW_of (lw_at4 183 rfl) rfl, UW_of (lw_at4 184 rfl) rfl⟩
set_option maxRecDepth 30000 in
theorem mf_De_value : MFv y_De_value b_De_value 2 (some .long) 1 := ⟨⟨UW_of (lw_at4 197 rfl) rfl, UW_of (lw_at1 1 rfl) rfl, ⟨by decide, by decide⟩, by decide +kernel, by decide⟩, UW_of (lw_at4 195 rfl) rfl, UW_of (lw_at4 196 rfl) rfl⟩
set_option maxRecDepth 30000 in
theorem mf_De_count : MFv y_De_count b_De_count 2 (some .int) 1 := ⟨⟨UW_of (lw_at4 205 rfl) rfl, UW_of (lw_at1 1 rfl) rfl, ⟨by decide, by decide⟩, by decide +kernel, by decide⟩, UW_of (lw_at4 203 rfl) rfl, UW_of (lw_at4 204 rfl) rfl⟩
set_option maxRecDepth 30000 in
theorem mf_De_isEvaluation : MFs y_De_isEvaluation b_De_isEvaluation 1 (some .boolean) 1 := ⟨⟨UW_of (lw_at2 143 rfl) rfl, UW_of (lw_at1 1 rfl) rfl, ⟨by decide, by decide⟩, by decide +kernel, by decide⟩, UW_of (lw_at2 142 rfl) rfl⟩
set_option maxRecDepth 30000 in
theorem mf_De_endWaiting : MFv y_De_endWaiting b_De_endWaiting 3 none 1 := ⟨⟨UW_of (lw_at2 111 rfl) rfl, UW_of (lw_at1 1 rfl) rfl, ⟨by decide, by decide⟩, by decide +kernel, by decide⟩, UW_of (lw_at2 110 rfl) rfl, UW_of (lw_at 5 rfl) rfl⟩
set_option maxRecDepth 30000 in
theorem mf_De_placeOf : MFs y_De_placeOf b_De_placeOf 2 (some .int) 2 := ⟨⟨UW_of (lw_at2 53 rfl) rfl, UW_of (lw_at1 1 rfl) rfl, ⟨by decide, by decide⟩, by decide +kernel, by decide⟩, UW_of (lw_at2 52 rfl) rfl⟩
set_option maxRecDepth 30000 in
theorem mf_Mo_init : MFi y_Mo_init b_Mo_init 2 0 := ⟨⟨UW_of (lw_at4 228 rfl) rfl, UW_of (lw_at1 10 rfl) rfl, ⟨by decide, by decide⟩, by decide +kernel, by decide⟩, UW_of (lw_at4 227 rfl) rfl, rfl⟩
set_option maxRecDepth 30000 in
theorem mf_Mo_in : MFs y_Mo_in b_Mo_in 2 (some .boolean) 2 := ⟨⟨UW_of (lw_at5 146 rfl) rfl, UW_of (lw_at1 10 rfl) rfl, ⟨by decide, by decide⟩, by decide +kernel, by decide⟩, UW_of (lw_at5 145 rfl) rfl⟩
set_option maxRecDepth 30000 in
theorem mf_Mo_isKind : MFv y_Mo_isKind b_Mo_isKind 2 (some .boolean) 1 := ⟨⟨UW_of (lw_at5 150 rfl) rfl, UW_of (lw_at1 10 rfl) rfl, ⟨by decide, by decide⟩, by decide +kernel, by decide⟩, UW_of (lw_at5 149 rfl) rfl, UW_of (lw_at 47 rfl) rfl⟩
set_option maxRecDepth 30000 in
theorem mf_Mo_reference : MFs y_Mo_reference b_Mo_reference 1 (some .boolean) 1 := ⟨⟨UW_of (lw_at5 178 rfl) rfl, UW_of (lw_at1 10 rfl) rfl, ⟨by decide, by decide⟩, by decide +kernel, by decide⟩, UW_of (lw_at5 177 rfl) rfl⟩
set_option maxRecDepth 30000 in
theorem mf_Mo_numeric : MFs y_Mo_numeric b_Mo_numeric 1 (some .boolean) 1 := ⟨⟨UW_of (lw_at6 69 rfl) rfl, UW_of (lw_at1 10 rfl) rfl, ⟨by decide, by decide⟩, by decide +kernel, by decide⟩, UW_of (lw_at6 68 rfl) rfl⟩
set_option maxRecDepth 30000 in
theorem mf_Mo_isA : MFv y_Mo_isA b_Mo_isA 5 (some .boolean) 2 := ⟨⟨UW_of (lw_at5 154 rfl) rfl, UW_of (lw_at1 10 rfl) rfl, ⟨by decide, by decide⟩, by decide +kernel, by decide⟩, UW_of (lw_at5 153 rfl) rfl, UW_of (lw_at 48 rfl) rfl⟩
set_option maxRecDepth 30000 in
theorem mf_Mo_suits : MFv y_Mo_suits b_Mo_suits 3 (some .boolean) 2 := ⟨⟨UW_of (lw_at5 175 rfl) rfl, UW_of (lw_at1 10 rfl) rfl, ⟨by decide, by decide⟩, by decide +kernel, by decide⟩, UW_of (lw_at5 174 rfl) rfl, UW_of (lw_at 50 rfl) rfl⟩
set_option maxRecDepth 30000 in
theorem mf_Mo_related : MFv y_Mo_related b_Mo_related 3 (some .boolean) 2 := ⟨⟨UW_of (lw_at6 76 rfl) rfl, UW_of (lw_at1 10 rfl) rfl, ⟨by decide, by decide⟩, by decide +kernel, by decide⟩, UW_of (lw_at6 75 rfl) rfl, UW_of (lw_at 72 rfl) rfl⟩
set_option maxRecDepth 30000 in
theorem mf_Mo_fieldOf : MFv y_Mo_fieldOf b_Mo_fieldOf 5 (some .int) 2 := ⟨⟨UW_of (lw_at5 186 rfl) rfl, UW_of (lw_at1 10 rfl) rfl, ⟨by decide, by decide⟩, by decide +kernel, by decide⟩, UW_of (lw_at5 185 rfl) rfl, UW_of (lw_at 51 rfl) rfl⟩
set_option maxRecDepth 30000 in
theorem mf_Mo_addClass : MFv y_Mo_addClass b_Mo_addClass 2 (some .int) 1 := ⟨⟨UW_of (lw_at5 139 rfl) rfl, UW_of (lw_at1 10 rfl) rfl, ⟨by decide, by decide⟩, by decide +kernel, by decide⟩, UW_of (lw_at5 137 rfl) rfl, UW_of (lw_at5 138 rfl) rfl⟩
set_option maxRecDepth 30000 in
theorem mf_Mo_addField : MFv y_Mo_addField b_Mo_addField 5 (some .boolean) 3 := ⟨⟨UW_of (lw_at5 143 rfl) rfl, UW_of (lw_at1 10 rfl) rfl, ⟨by decide, by decide⟩, by decide +kernel, by decide⟩, UW_of (lw_at5 141 rfl) rfl, UW_of (lw_at5 142 rfl) rfl⟩
set_option maxRecDepth 30000 in
theorem mf_Mo_addVariable : MFv y_Mo_addVariable b_Mo_addVariable 3 (some .boolean) 2 := ⟨⟨UW_of (lw_at5 158 rfl) rfl, UW_of (lw_at1 10 rfl) rfl, ⟨by decide, by decide⟩, by decide +kernel, by decide⟩, UW_of (lw_at5 156 rfl) rfl, UW_of (lw_at5 157 rfl) rfl⟩
set_option maxRecDepth 30000 in
theorem mf_Mo_make : MFv y_Mo_make b_Mo_make 4 (some .int) 2 := ⟨⟨UW_of (lw_at5 162 rfl) rfl, UW_of (lw_at1 10 rfl) rfl, ⟨by decide, by decide⟩, by decide +kernel, by decide⟩, UW_of (lw_at5 160 rfl) rfl, UW_of (lw_at5 161 rfl) rfl⟩
set_option maxRecDepth 30000 in
theorem mf_Mo_valid : MFv y_Mo_valid b_Mo_valid 4 (some .boolean) 2 := ⟨⟨UW_of (lw_at5 170 rfl) rfl, UW_of (lw_at1 10 rfl) rfl, ⟨by decide, by decide⟩, by decide +kernel, by decide⟩, UW_of (lw_at5 169 rfl) rfl, UW_of (lw_at 49 rfl) rfl⟩
set_option maxRecDepth 30000 in
theorem mf_Mo_setVariable : MFv y_Mo_setVariable b_Mo_setVariable 4 (some .boolean) 2 := ⟨⟨UW_of (lw_at5 166 rfl) rfl, UW_of (lw_at1 10 rfl) rfl, ⟨by decide, by decide⟩, by decide +kernel, by decide⟩, UW_of (lw_at5 164 rfl) rfl, UW_of (lw_at5 165 rfl) rfl⟩
set_option maxRecDepth 30000 in
theorem mf_Mo_elementOf : MFs y_Mo_elementOf b_Mo_elementOf 1 (some .int) 1 := ⟨⟨UW_of (lw_at5 189 rfl) rfl, UW_of (lw_at1 10 rfl) rfl, ⟨by decide, by decide⟩, by decide +kernel, by decide⟩, UW_of (lw_at5 188 rfl) rfl⟩
set_option maxRecDepth 30000 in
theorem mf_Mo_setPart : MFv y_Mo_setPart b_Mo_setPart 7 (some .boolean) 3 := ⟨⟨UW_of (lw_at5 182 rfl) rfl, UW_of (lw_at1 10 rfl) rfl, ⟨by decide, by decide⟩, by decide +kernel, by decide⟩, UW_of (lw_at5 180 rfl) rfl, UW_of (lw_at5 181 rfl) rfl⟩
set_option maxRecDepth 30000 in
theorem mf_Mo_forget : MFv y_Mo_forget b_Mo_forget 3 none 1 := ⟨⟨UW_of (lw_at5 197 rfl) rfl, UW_of (lw_at1 10 rfl) rfl, ⟨by decide, by decide⟩, by decide +kernel, by decide⟩, UW_of (lw_at5 196 rfl) rfl, UW_of (lw_at 52 rfl) rfl⟩
set_option maxRecDepth 30000 in
theorem mf_Mo_run : MFv y_Mo_run b_Mo_run 2 (some .boolean) 1 := ⟨⟨UW_of (lw_at5 193 rfl) rfl, UW_of (lw_at1 10 rfl) rfl, ⟨by decide, by decide⟩, by decide +kernel, by decide⟩, UW_of (lw_at5 191 rfl) rfl, UW_of (lw_at5 192 rfl) rfl⟩
set_option maxRecDepth 30000 in
theorem mf_Mo_line : MFv y_Mo_line b_Mo_line 2 (some .boolean) 1 := ⟨⟨UW_of (lw_at5 201 rfl) rfl, UW_of (lw_at1 10 rfl) rfl, ⟨by decide, by decide⟩, by decide +kernel, by decide⟩, UW_of (lw_at5 199 rfl) rfl, UW_of (lw_at5 200 rfl) rfl⟩
set_option maxRecDepth 30000 in
theorem mf_Mo_put : MFv y_Mo_put b_Mo_put 2 (some .boolean) 1 := ⟨⟨UW_of (lw_at5 205 rfl) rfl, UW_of (lw_at1 10 rfl) rfl, ⟨by decide, by decide⟩, by decide +kernel, by decide⟩, UW_of (lw_at5 203 rfl) rfl, UW_of (lw_at5 204 rfl) rfl⟩
set_option maxRecDepth 30000 in
theorem mf_Mo_at : MFv y_Mo_at b_Mo_at 3 (some .int) 2 := ⟨⟨UW_of (lw_at5 221 rfl) rfl, UW_of (lw_at1 10 rfl) rfl, ⟨by decide, by decide⟩, by decide +kernel, by decide⟩, UW_of (lw_at5 220 rfl) rfl, UW_of (lw_at 55 rfl) rfl⟩
set_option maxRecDepth 30000 in
theorem mf_Mo_digit : MFs y_Mo_digit b_Mo_digit 1 (some .boolean) 1 := ⟨⟨UW_of (lw_at6 4 rfl) rfl, UW_of (lw_at1 10 rfl) rfl, ⟨by decide, by decide⟩, by decide +kernel, by decide⟩, UW_of (lw_at6 3 rfl) rfl⟩
set_option maxRecDepth 30000 in
theorem mf_Mo_small : MFs y_Mo_small b_Mo_small 1 (some .boolean) 1 := ⟨⟨UW_of (lw_at5 227 rfl) rfl, UW_of (lw_at1 10 rfl) rfl, ⟨by decide, by decide⟩, by decide +kernel, by decide⟩, UW_of (lw_at5 226 rfl) rfl⟩
set_option maxRecDepth 30000 in
theorem mf_Mo_letter : MFs y_Mo_letter b_Mo_letter 1 (some .boolean) 1 := ⟨⟨UW_of (lw_at5 224 rfl) rfl, UW_of (lw_at1 10 rfl) rfl, ⟨by decide, by decide⟩, by decide +kernel, by decide⟩, UW_of (lw_at5 223 rfl) rfl⟩
set_option maxRecDepth 30000 in
theorem mf_Mo_add : MFv y_Mo_add b_Mo_add 4 none 2 := ⟨⟨UW_of (lw_at5 235 rfl) rfl, UW_of (lw_at1 10 rfl) rfl, ⟨by decide, by decide⟩, by decide +kernel, by decide⟩, UW_of (lw_at5 234 rfl) rfl, UW_of (lw_at 57 rfl) rfl⟩
set_option maxRecDepth 30000 in
theorem mf_Mo_split : MFv y_Mo_split b_Mo_split 5 none 1 := ⟨⟨UW_of (lw_at5 217 rfl) rfl, UW_of (lw_at1 10 rfl) rfl, ⟨by decide, by decide⟩, by decide +kernel, by decide⟩, UW_of (lw_at5 216 rfl) rfl, UW_of (lw_at 54 rfl) rfl⟩
set_option maxRecDepth 30000 in
theorem mf_Mo_word : MFv y_Mo_word b_Mo_word 8 (some .int) 2 := ⟨⟨UW_of (lw_at5 231 rfl) rfl, UW_of (lw_at1 10 rfl) rfl, ⟨by decide, by decide⟩, by decide +kernel, by decide⟩, UW_of (lw_at5 230 rfl) rfl, UW_of (lw_at 56 rfl) rfl⟩
set_option maxRecDepth 30000 in
theorem mf_Mo_spell : MFs y_Mo_spell b_Mo_spell 7 (some .long) 5 := ⟨⟨UW_of (lw_at5 238 rfl) rfl, UW_of (lw_at1 10 rfl) rfl, ⟨by decide, by decide⟩, by decide +kernel, by decide⟩, UW_of (lw_at5 237 rfl) rfl⟩
set_option maxRecDepth 30000 in
theorem mf_Mo_number : MFv y_Mo_number b_Mo_number 8 (some .int) 2 := ⟨⟨UW_of (lw_at6 8 rfl) rfl, UW_of (lw_at1 10 rfl) rfl, ⟨by decide, by decide⟩, by decide +kernel, by decide⟩, UW_of (lw_at6 7 rfl) rfl, UW_of (lw_at 58 rfl) rfl⟩
set_option maxRecDepth 30000 in
theorem mf_Mo_sign : MFv y_Mo_sign b_Mo_sign 8 (some .int) 2 := ⟨⟨UW_of (lw_at6 15 rfl) rfl, UW_of (lw_at1 10 rfl) rfl, ⟨by decide, by decide⟩, by decide +kernel, by decide⟩, UW_of (lw_at6 14 rfl) rfl, UW_of (lw_at 59 rfl) rfl⟩
set_option maxRecDepth 30000 in
theorem mf_Mo_node : MFv y_Mo_node b_Mo_node 7 (some .int) 5 := ⟨⟨UW_of (lw_at6 35 rfl) rfl, UW_of (lw_at1 10 rfl) rfl, ⟨by decide, by decide⟩, by decide +kernel, by decide⟩, UW_of (lw_at6 34 rfl) rfl, UW_of (lw_at 64 rfl) rfl⟩
set_option maxRecDepth 30000 in
theorem mf_Mo_push : MFv y_Mo_push b_Mo_push 2 none 1 := ⟨⟨UW_of (lw_at6 39 rfl) rfl, UW_of (lw_at1 10 rfl) rfl, ⟨by decide, by decide⟩, by decide +kernel, by decide⟩, UW_of (lw_at6 38 rfl) rfl, UW_of (lw_at 65 rfl) rfl⟩
set_option maxRecDepth 30000 in
theorem mf_Mo_pop : MFv y_Mo_pop b_Mo_pop 1 (some .int) 0 := ⟨⟨UW_of (lw_at6 55 rfl) rfl, UW_of (lw_at1 10 rfl) rfl, ⟨by decide, by decide⟩, by decide +kernel, by decide⟩, UW_of (lw_at6 54 rfl) rfl, UW_of (lw_at 69 rfl) rfl⟩
set_option maxRecDepth 30000 in
theorem mf_Mo_hold : MFv y_Mo_hold b_Mo_hold 3 none 2 := ⟨⟨UW_of (lw_at6 47 rfl) rfl, UW_of (lw_at1 10 rfl) rfl, ⟨by decide, by decide⟩, by decide +kernel, by decide⟩, UW_of (lw_at6 46 rfl) rfl, UW_of (lw_at 67 rfl) rfl⟩
set_option maxRecDepth 30000 in
theorem mf_Mo_binds : MFs y_Mo_binds b_Mo_binds 1 (some .int) 1 := ⟨⟨UW_of (lw_at6 62 rfl) rfl, UW_of (lw_at1 10 rfl) rfl, ⟨by decide, by decide⟩, by decide +kernel, by decide⟩, UW_of (lw_at6 61 rfl) rfl⟩
set_option maxRecDepth 30000 in
theorem mf_Mo_top : MFv y_Mo_top b_Mo_top 1 (some .int) 0 := ⟨⟨UW_of (lw_at6 27 rfl) rfl, UW_of (lw_at1 10 rfl) rfl, ⟨by decide, by decide⟩, by decide +kernel, by decide⟩, UW_of (lw_at6 26 rfl) rfl, UW_of (lw_at 62 rfl) rfl⟩
set_option maxRecDepth 30000 in
theorem mf_Mo_reduce : MFv y_Mo_reduce b_Mo_reduce 8 none 1 := ⟨⟨UW_of (lw_at6 59 rfl) rfl, UW_of (lw_at1 10 rfl) rfl, ⟨by decide, by decide⟩, by decide +kernel, by decide⟩, UW_of (lw_at6 58 rfl) rfl, UW_of (lw_at 70 rfl) rfl⟩
set_option maxRecDepth 30000 in
theorem mf_Mo_tokenAt : MFv y_Mo_tokenAt b_Mo_tokenAt 2 (some .int) 1 := ⟨⟨UW_of (lw_at6 31 rfl) rfl, UW_of (lw_at1 10 rfl) rfl, ⟨by decide, by decide⟩, by decide +kernel, by decide⟩, UW_of (lw_at6 30 rfl) rfl, UW_of (lw_at 63 rfl) rfl⟩
set_option maxRecDepth 30000 in
theorem mf_Mo_parse : MFv y_Mo_parse b_Mo_parse 6 none 0 := ⟨⟨UW_of (lw_at6 19 rfl) rfl, UW_of (lw_at1 10 rfl) rfl, ⟨by decide, by decide⟩, by decide +kernel, by decide⟩, UW_of (lw_at6 18 rfl) rfl, UW_of (lw_at 60 rfl) rfl⟩
set_option maxRecDepth 30000 in
theorem mf_Mo_leaf : MFv y_Mo_leaf b_Mo_leaf 4 (some .int) 1 := ⟨⟨UW_of (lw_at6 23 rfl) rfl, UW_of (lw_at1 10 rfl) rfl, ⟨by decide, by decide⟩, by decide +kernel, by decide⟩, UW_of (lw_at6 22 rfl) rfl, UW_of (lw_at 61 rfl) rfl⟩
set_option maxRecDepth 30000 in
theorem mf_Mo_before : MFv y_Mo_before b_Mo_before 7 (some .int) 1 := ⟨⟨UW_of (lw_at6 43 rfl) rfl, UW_of (lw_at1 10 rfl) rfl, ⟨by decide, by decide⟩, by decide +kernel, by decide⟩, UW_of (lw_at6 42 rfl) rfl, UW_of (lw_at 66 rfl) rfl⟩
set_option maxRecDepth 30000 in
theorem mf_Mo_behind : MFv y_Mo_behind b_Mo_behind 6 (some .int) 1 := ⟨⟨UW_of (lw_at6 51 rfl) rfl, UW_of (lw_at1 10 rfl) rfl, ⟨by decide, by decide⟩, by decide +kernel, by decide⟩, UW_of (lw_at6 50 rfl) rfl, UW_of (lw_at 68 rfl) rfl⟩
set_option maxRecDepth 30000 in
theorem mf_Mo_common : MFs y_Mo_common b_Mo_common 2 (some .int) 2 := ⟨⟨UW_of (lw_at6 72 rfl) rfl, UW_of (lw_at1 10 rfl) rfl, ⟨by decide, by decide⟩, by decide +kernel, by decide⟩, UW_of (lw_at6 71 rfl) rfl⟩
set_option maxRecDepth 30000 in
theorem mf_Mo_check : MFv y_Mo_check b_Mo_check 8 (some .int) 1 := ⟨⟨UW_of (lw_at6 66 rfl) rfl, UW_of (lw_at1 10 rfl) rfl, ⟨by decide, by decide⟩, by decide +kernel, by decide⟩, UW_of (lw_at6 65 rfl) rfl, UW_of (lw_at 71 rfl) rfl⟩
set_option maxRecDepth 30000 in
theorem mf_Mo_either : MFv y_Mo_either b_Mo_either 3 (some .int) 2 := ⟨⟨UW_of (lw_at6 80 rfl) rfl, UW_of (lw_at1 10 rfl) rfl, ⟨by decide, by decide⟩, by decide +kernel, by decide⟩, UW_of (lw_at6 79 rfl) rfl, UW_of (lw_at 73 rfl) rfl⟩
set_option maxRecDepth 30000 in
theorem mf_Mo_pieceOf : MFv y_Mo_pieceOf b_Mo_pieceOf 4 (some .int) 3 := ⟨⟨UW_of (lw_at6 104 rfl) rfl, UW_of (lw_at1 10 rfl) rfl, ⟨by decide, by decide⟩, by decide +kernel, by decide⟩, UW_of (lw_at6 103 rfl) rfl, UW_of (lw_at 79 rfl) rfl⟩
set_option maxRecDepth 30000 in
theorem mf_Mo_has : MFv y_Mo_has b_Mo_has 5 (some .boolean) 3 := ⟨⟨UW_of (lw_at6 100 rfl) rfl, UW_of (lw_at1 10 rfl) rfl, ⟨by decide, by decide⟩, by decide +kernel, by decide⟩, UW_of (lw_at6 99 rfl) rfl, UW_of (lw_at 78 rfl) rfl⟩
set_option maxRecDepth 30000 in
theorem mf_Mo_set : MFv y_Mo_set b_Mo_set 4 none 2 := ⟨⟨UW_of (lw_at6 96 rfl) rfl, UW_of (lw_at1 10 rfl) rfl, ⟨by decide, by decide⟩, by decide +kernel, by decide⟩, UW_of (lw_at6 95 rfl) rfl, UW_of (lw_at 77 rfl) rfl⟩
set_option maxRecDepth 30000 in
theorem mf_Mo_lacks : MFv y_Mo_lacks b_Mo_lacks 5 (some .int) 1 := ⟨⟨UW_of (lw_at6 88 rfl) rfl, UW_of (lw_at1 10 rfl) rfl, ⟨by decide, by decide⟩, by decide +kernel, by decide⟩, UW_of (lw_at6 87 rfl) rfl, UW_of (lw_at 75 rfl) rfl⟩
set_option maxRecDepth 30000 in
theorem mf_Mo_work : MFv y_Mo_work b_Mo_work 5 (some .int) 0 := ⟨⟨UW_of (lw_at6 84 rfl) rfl, UW_of (lw_at1 10 rfl) rfl, ⟨by decide, by decide⟩, by decide +kernel, by decide⟩, UW_of (lw_at6 83 rfl) rfl, UW_of (lw_at 74 rfl) rfl⟩
set_option maxRecDepth 30000 in
theorem mf_Mo_compute : MFv y_Mo_compute b_Mo_compute 5 none 1 := ⟨⟨UW_of (lw_at6 92 rfl) rfl, UW_of (lw_at1 10 rfl) rfl, ⟨by decide, by decide⟩, by decide +kernel, by decide⟩, UW_of (lw_at6 91 rfl) rfl, UW_of (lw_at 76 rfl) rfl⟩
set_option maxRecDepth 30000 in
theorem mf_Mo_into : MFv y_Mo_into b_Mo_into 5 none 1 := ⟨⟨UW_of (lw_at6 109 rfl) rfl, UW_of (lw_at1 10 rfl) rfl, ⟨by decide, by decide⟩, by decide +kernel, by decide⟩, UW_of (lw_at6 108 rfl) rfl, UW_of (lw_at 80 rfl) rfl⟩
set_option maxRecDepth 30000 in
theorem mf_Mo_fit : MFv y_Mo_fit b_Mo_fit 8 none 1 := ⟨⟨UW_of (lw_at6 113 rfl) rfl, UW_of (lw_at1 10 rfl) rfl, ⟨by decide, by decide⟩, by decide +kernel, by decide⟩, UW_of (lw_at6 112 rfl) rfl, UW_of (lw_at 81 rfl) rfl⟩
set_option maxRecDepth 30000 in
theorem mf_Mo_reckon : MFv y_Mo_reckon b_Mo_reckon 9 none 1 := ⟨⟨UW_of (lw_at6 117 rfl) rfl, UW_of (lw_at1 10 rfl) rfl, ⟨by decide, by decide⟩, by decide +kernel, by decide⟩, UW_of (lw_at6 116 rfl) rfl, UW_of (lw_at 82 rfl) rfl⟩
set_option maxRecDepth 30000 in
theorem mf_Mo_go : MFv y_Mo_go b_Mo_go 3 none 1 := ⟨⟨UW_of (lw_at5 213 rfl) rfl, UW_of (lw_at1 10 rfl) rfl, ⟨by decide, by decide⟩, by decide +kernel, by decide⟩, UW_of (lw_at5 212 rfl) rfl, UW_of (lw_at 53 rfl) rfl⟩
set_option maxRecDepth 30000 in
theorem mf_Mo_send : MFv y_Mo_send b_Mo_send 3 none 1 := ⟨⟨UW_of (lw_at6 121 rfl) rfl, UW_of (lw_at1 10 rfl) rfl, ⟨by decide, by decide⟩, by decide +kernel, by decide⟩, UW_of (lw_at6 120 rfl) rfl, UW_of (lw_at 83 rfl) rfl⟩
set_option maxRecDepth 30000 in
theorem mf_Mo_eval : MFv y_Mo_eval b_Mo_eval 3 (some .int) 1 := ⟨⟨UW_of (lw_at5 209 rfl) rfl, UW_of (lw_at1 10 rfl) rfl, ⟨by decide, by decide⟩, by decide +kernel, by decide⟩, UW_of (lw_at5 207 rfl) rfl, UW_of (lw_at5 208 rfl) rfl⟩
set_option maxRecDepth 30000 in
theorem mf_Mo_again : MFv y_Mo_again b_Mo_again 2 (some .int) 1 := ⟨⟨UW_of (lw_at6 125 rfl) rfl, UW_of (lw_at1 10 rfl) rfl, ⟨by decide, by decide⟩, by decide +kernel, by decide⟩, UW_of (lw_at6 123 rfl) rfl, UW_of (lw_at6 124 rfl) rfl⟩
set_option maxRecDepth 30000 in
theorem mf_Mo_request : MFv y_Mo_request b_Mo_request 7 (some .int) 2 := ⟨⟨UW_of (lw_at6 129 rfl) rfl, UW_of (lw_at1 10 rfl) rfl, ⟨by decide, by decide⟩, by decide +kernel, by decide⟩, UW_of (lw_at6 127 rfl) rfl, UW_of (lw_at6 128 rfl) rfl⟩
set_option maxRecDepth 30000 in
theorem mf_Mo_takeOut : MFv y_Mo_takeOut b_Mo_takeOut 4 (some .int) 1 := ⟨⟨UW_of (lw_at6 137 rfl) rfl, UW_of (lw_at1 10 rfl) rfl, ⟨by decide, by decide⟩, by decide +kernel, by decide⟩, UW_of (lw_at6 136 rfl) rfl, UW_of (lw_at 84 rfl) rfl⟩
set_option maxRecDepth 30000 in
theorem mf_Mo_waiting : MFv y_Mo_waiting b_Mo_waiting 4 (some .int) 1 := ⟨⟨UW_of (lw_at6 141 rfl) rfl, UW_of (lw_at1 10 rfl) rfl, ⟨by decide, by decide⟩, by decide +kernel, by decide⟩, UW_of (lw_at6 140 rfl) rfl, UW_of (lw_at 85 rfl) rfl⟩
set_option maxRecDepth 30000 in
theorem mf_Mo_ones : MFs y_Mo_ones b_Mo_ones 1 (some .int) 1 := ⟨⟨UW_of (lw_at6 144 rfl) rfl, UW_of (lw_at1 10 rfl) rfl, ⟨by decide, by decide⟩, by decide +kernel, by decide⟩, UW_of (lw_at6 143 rfl) rfl⟩
set_option maxRecDepth 30000 in
theorem mf_Mo_answer : MFv y_Mo_answer b_Mo_answer 5 (some .int) 1 := ⟨⟨UW_of (lw_at6 133 rfl) rfl, UW_of (lw_at1 10 rfl) rfl, ⟨by decide, by decide⟩, by decide +kernel, by decide⟩, UW_of (lw_at6 131 rfl) rfl, UW_of (lw_at6 132 rfl) rfl⟩
set_option maxRecDepth 30000 in
theorem mf_Mo_refuse : MFv y_Mo_refuse b_Mo_refuse 5 (some .int) 1 := ⟨⟨UW_of (lw_at6 148 rfl) rfl, UW_of (lw_at1 10 rfl) rfl, ⟨by decide, by decide⟩, by decide +kernel, by decide⟩, UW_of (lw_at6 146 rfl) rfl, UW_of (lw_at6 147 rfl) rfl⟩
set_option maxRecDepth 30000 in
theorem mf_Mo_look : MFv y_Mo_look b_Mo_look 3 (some .int) 2 := ⟨⟨UW_of (lw_at6 152 rfl) rfl, UW_of (lw_at1 10 rfl) rfl, ⟨by decide, by decide⟩, by decide +kernel, by decide⟩, UW_of (lw_at6 150 rfl) rfl, UW_of (lw_at6 151 rfl) rfl⟩
set_option maxRecDepth 30000 in
theorem mf_Mo_value : MFv y_Mo_value b_Mo_value 2 (some .long) 1 := ⟨⟨UW_of (lw_at6 156 rfl) rfl, UW_of (lw_at1 10 rfl) rfl, ⟨by decide, by decide⟩, by decide +kernel, by decide⟩, UW_of (lw_at6 154 rfl) rfl, UW_of (lw_at6 155 rfl) rfl⟩
set_option maxRecDepth 30000 in
theorem mf_Mo_count : MFv y_Mo_count b_Mo_count 4 (some .int) 1 := ⟨⟨UW_of (lw_at6 160 rfl) rfl, UW_of (lw_at1 10 rfl) rfl, ⟨by decide, by decide⟩, by decide +kernel, by decide⟩, UW_of (lw_at6 158 rfl) rfl, UW_of (lw_at6 159 rfl) rfl⟩
set_option maxRecDepth 30000 in
theorem mf_Ji_bitCount : MFs y_Ji_bitCount b_Ji_bitCount 1 (some .int) 1 := ⟨⟨UW_of (lw_at4 220 rfl) rfl, UW_of (lw_at1 19 rfl) rfl, ⟨by decide, by decide⟩, by decide +kernel, by decide⟩, UW_of (lw_at4 219 rfl) rfl⟩
set_option maxRecDepth 30000 in
theorem mf_Js_length : MFv y_Js_length b_Js_length 1 (some .int) 0 := ⟨⟨UW_of (lw_at2 202 rfl) rfl, UW_of (lw_at1 13 rfl) rfl, ⟨by decide, by decide⟩, by decide +kernel, by decide⟩, UW_of (lw_at2 200 rfl) rfl, UW_of (lw_at2 201 rfl) rfl⟩
set_option maxRecDepth 30000 in
theorem mf_Js_charAt : MFv y_Js_charAt b_Js_charAt 2 (some .char) 1 := ⟨⟨UW_of (lw_at2 212 rfl) rfl, UW_of (lw_at1 13 rfl) rfl, ⟨by decide, by decide⟩, by decide +kernel, by decide⟩, UW_of (lw_at2 210 rfl) rfl, UW_of (lw_at2 211 rfl) rfl⟩
set_option maxRecDepth 30000 in
theorem mf_Js_indexOf1 : MFv y_Js_indexOf1 b_Js_indexOf1 2 (some .int) 1 := ⟨⟨UW_of (lw_at3 51 rfl) rfl, UW_of (lw_at1 13 rfl) rfl, ⟨by decide, by decide⟩, by decide +kernel, by decide⟩, UW_of (lw_at3 49 rfl) rfl, UW_of (lw_at3 50 rfl) rfl⟩
set_option maxRecDepth 30000 in
theorem mf_Js_indexOf2 : MFv y_Js_indexOf2 b_Js_indexOf2 3 (some .int) 2 := ⟨⟨UW_of (lw_at3 55 rfl) rfl, UW_of (lw_at1 13 rfl) rfl, ⟨by decide, by decide⟩, by decide +kernel, by decide⟩, UW_of (lw_at3 53 rfl) rfl, UW_of (lw_at3 54 rfl) rfl⟩
set_option maxRecDepth 30000 in
theorem mf_Js_coder : MFv y_Js_coder b_Js_coder 1 (some .byte) 0 := ⟨⟨UW_of (lw_at2 206 rfl) rfl, UW_of (lw_at1 13 rfl) rfl, ⟨by decide, by decide⟩, by decide +kernel, by decide⟩, UW_of (lw_at2 204 rfl) rfl, UW_of (lw_at2 205 rfl) rfl⟩
set_option maxRecDepth 30000 in
theorem mf_Js_isLatin1 : MFv y_Js_isLatin1 b_Js_isLatin1 1 (some .boolean) 0 := ⟨⟨UW_of (lw_at2 216 rfl) rfl, UW_of (lw_at1 13 rfl) rfl, ⟨by decide, by decide⟩, by decide +kernel, by decide⟩, UW_of (lw_at2 214 rfl) rfl, UW_of (lw_at2 215 rfl) rfl⟩
set_option maxRecDepth 30000 in
theorem mf_Js_checkIndex : MFs y_Js_checkIndex b_Js_checkIndex 2 none 2 := ⟨⟨UW_of (lw_at2 222 rfl) rfl, UW_of (lw_at1 13 rfl) rfl, ⟨by decide, by decide⟩, by decide +kernel, by decide⟩, UW_of (lw_at2 221 rfl) rfl⟩
set_option maxRecDepth 30000 in
theorem mf_Jl_charAt : MFs y_Jl_charAt b_Jl_charAt 2 (some .char) 2 := ⟨⟨UW_of (lw_at2 219 rfl) rfl, UW_of (lw_at1 14 rfl) rfl, ⟨by decide, by decide⟩, by decide +kernel, by decide⟩, UW_of (lw_at2 218 rfl) rfl⟩
set_option maxRecDepth 30000 in
theorem mf_Jl_canEncode : MFs y_Jl_canEncode b_Jl_canEncode 1 (some .boolean) 1 := ⟨⟨UW_of (lw_at3 62 rfl) rfl, UW_of (lw_at1 14 rfl) rfl, ⟨by decide, by decide⟩, by decide +kernel, by decide⟩, UW_of (lw_at3 61 rfl) rfl⟩
set_option maxRecDepth 30000 in
theorem mf_Jl_indexOf : MFs y_Jl_indexOf b_Jl_indexOf 4 (some .int) 4 := ⟨⟨UW_of (lw_at3 59 rfl) rfl, UW_of (lw_at1 14 rfl) rfl, ⟨by decide, by decide⟩, by decide +kernel, by decide⟩, UW_of (lw_at3 58 rfl) rfl⟩
set_option maxRecDepth 30000 in
theorem mf_Jl_indexOfChar : MFs y_Jl_indexOfChar b_Jl_indexOfChar 6 (some .int) 4 := ⟨⟨UW_of (lw_at3 71 rfl) rfl, UW_of (lw_at1 14 rfl) rfl, ⟨by decide, by decide⟩, by decide +kernel, by decide⟩, UW_of (lw_at3 70 rfl) rfl⟩
set_option maxRecDepth 30000 in
theorem mf_Ja_fill : MFs y_Ja_fill b_Ja_fill 4 none 2 := ⟨⟨UW_of (lw_at1 38 rfl) rfl, UW_of (lw_at1 3 rfl) rfl, ⟨by decide, by decide⟩, by decide +kernel, by decide⟩, UW_of (lw_at1 37 rfl) rfl⟩
set_option maxRecDepth 30000 in
theorem mf_Jp_checkIndex : MFs y_Jp_checkIndex b_Jp_checkIndex 3 (some .int) 3 := ⟨⟨UW_of (lw_at2 227 rfl) rfl, UW_of (lw_at1 15 rfl) rfl, ⟨by decide, by decide⟩, by decide +kernel, by decide⟩, UW_of (lw_at2 226 rfl) rfl⟩
set_option maxRecDepth 30000 in
theorem ml_La_9 : Cond.methodLink R_La 9 y_De_init ∈ UW := UW_of (lw_at1 22 rfl) rfl
set_option maxRecDepth 30000 in
theorem ml_De_3 : Cond.methodLink R_De 3 objectInit ∈ UW := UW_of (lw_at1 25 rfl) rfl
set_option maxRecDepth 30000 in
theorem ml_De_21 : Cond.methodLink R_De 21 y_Ta_init ∈ UW := UW_of (lw_at1 32 rfl) rfl
set_option maxRecDepth 30000 in
theorem ml_Ta_3 : Cond.methodLink R_Ta 3 objectInit ∈ UW := UW_of (lw_at1 35 rfl) rfl
set_option maxRecDepth 30000 in
theorem ml_Ta_29 : Cond.methodLink R_Ta 29 y_Ja_fill ∈ UW := UW_of (lw_at1 36 rfl) rfl
set_option maxRecDepth 30000 in
theorem ml_Li_3 : Cond.methodLink R_Li 3 objectInit ∈ UW := UW_of (lw_at1 72 rfl) rfl
set_option maxRecDepth 30000 in
theorem ml_Re_3 : Cond.methodLink R_Re 3 objectInit ∈ UW := UW_of (lw_at1 97 rfl) rfl
set_option maxRecDepth 30000 in
theorem ml_To_3 : Cond.methodLink R_To 3 objectInit ∈ UW := UW_of (lw_at1 103 rfl) rfl
set_option maxRecDepth 30000 in
theorem ml_De_30 : Cond.methodLink R_De 30 y_Ck_init ∈ UW := UW_of (lw_at1 141 rfl) rfl
set_option maxRecDepth 30000 in
theorem ml_Ck_3 : Cond.methodLink R_Ck 3 objectInit ∈ UW := UW_of (lw_at1 144 rfl) rfl
set_option maxRecDepth 30000 in
theorem ml_De_33 : Cond.methodLink R_De 33 y_Ev_init ∈ UW := UW_of (lw_at1 153 rfl) rfl
set_option maxRecDepth 30000 in
theorem ml_Ev_3 : Cond.methodLink R_Ev 3 objectInit ∈ UW := UW_of (lw_at1 156 rfl) rfl
set_option maxRecDepth 30000 in
theorem ml_St_3 : Cond.methodLink R_St 3 objectInit ∈ UW := UW_of (lw_at1 162 rfl) rfl
set_option maxRecDepth 30000 in
theorem ml_La_13 : Cond.methodLink R_La 13 y_De_addClass ∈ UW := UW_of (lw_at1 238 rfl) rfl
set_option maxRecDepth 30000 in
theorem ml_De_44 : Cond.methodLink R_De 44 y_Ta_extendClass ∈ UW := UW_of (lw_at2 2 rfl) rfl
set_option maxRecDepth 30000 in
theorem ml_La_18 : Cond.methodLink R_La 18 y_De_addField ∈ UW := UW_of (lw_at2 6 rfl) rfl
set_option maxRecDepth 30000 in
theorem ml_De_48 : Cond.methodLink R_De 48 y_Ta_declareField ∈ UW := UW_of (lw_at2 10 rfl) rfl
set_option maxRecDepth 30000 in
theorem ml_Ta_42 : Cond.methodLink R_Ta 42 y_Ta_isThere ∈ UW := UW_of (lw_at2 14 rfl) rfl
set_option maxRecDepth 30000 in
theorem ml_Ta_50 : Cond.methodLink R_Ta 50 y_Ki_isClass ∈ UW := UW_of (lw_at2 18 rfl) rfl
set_option maxRecDepth 30000 in
theorem ml_Ta_46 : Cond.methodLink R_Ta 46 y_Ta_isFieldNear ∈ UW := UW_of (lw_at2 21 rfl) rfl
set_option maxRecDepth 30000 in
theorem ml_Ta_79 : Cond.methodLink R_Ta 79 y_Ta_isA ∈ UW := UW_of (lw_at2 25 rfl) rfl
set_option maxRecDepth 30000 in
theorem ml_La_23 : Cond.methodLink R_La 23 y_De_addVariable ∈ UW := UW_of (lw_at2 29 rfl) rfl
set_option maxRecDepth 30000 in
theorem ml_De_52 : Cond.methodLink R_De 52 y_Ta_declareVariable ∈ UW := UW_of (lw_at2 33 rfl) rfl
set_option maxRecDepth 30000 in
theorem ml_La_28 : Cond.methodLink R_La 28 y_De_make ∈ UW := UW_of (lw_at2 37 rfl) rfl
set_option maxRecDepth 30000 in
theorem ml_De_56 : Cond.methodLink R_De 56 y_Ta_create ∈ UW := UW_of (lw_at2 41 rfl) rfl
set_option maxRecDepth 30000 in
theorem ml_Ta_55 : Cond.methodLink R_Ta 55 y_Ki_isArray ∈ UW := UW_of (lw_at2 45 rfl) rfl
set_option maxRecDepth 30000 in
theorem ml_Ta_61 : Cond.methodLink R_Ta 61 y_Ki_isReference ∈ UW := UW_of (lw_at2 48 rfl) rfl
set_option maxRecDepth 30000 in
theorem ml_La_35 : Cond.methodLink R_La 35 y_De_setVariable ∈ UW := UW_of (lw_at2 54 rfl) rfl
set_option maxRecDepth 30000 in
theorem ml_De_60 : Cond.methodLink R_De 60 y_Ta_storeVariable ∈ UW := UW_of (lw_at2 58 rfl) rfl
set_option maxRecDepth 30000 in
theorem ml_Ta_68 : Cond.methodLink R_Ta 68 y_Ta_kindOfVariable ∈ UW := UW_of (lw_at2 62 rfl) rfl
set_option maxRecDepth 30000 in
theorem ml_Ta_72 : Cond.methodLink R_Ta 72 y_Ta_isValue ∈ UW := UW_of (lw_at2 66 rfl) rfl
set_option maxRecDepth 30000 in
theorem ml_Ta_94 : Cond.methodLink R_Ta 94 y_Ki_narrowed ∈ UW := UW_of (lw_at2 70 rfl) rfl
set_option maxRecDepth 30000 in
theorem ml_Ta_85 : Cond.methodLink R_Ta 85 y_Ta_kindOfObject ∈ UW := UW_of (lw_at2 73 rfl) rfl
set_option maxRecDepth 30000 in
theorem ml_Ta_82 : Cond.methodLink R_Ta 82 y_Ta_fits ∈ UW := UW_of (lw_at2 77 rfl) rfl
set_option maxRecDepth 30000 in
theorem ml_La_40 : Cond.methodLink R_La 40 y_De_setPart ∈ UW := UW_of (lw_at2 81 rfl) rfl
set_option maxRecDepth 30000 in
theorem ml_De_64 : Cond.methodLink R_De 64 y_Ta_storePart ∈ UW := UW_of (lw_at2 85 rfl) rfl
set_option maxRecDepth 30000 in
theorem ml_Ta_76 : Cond.methodLink R_Ta 76 y_Ta_kindOfPart ∈ UW := UW_of (lw_at2 89 rfl) rfl
set_option maxRecDepth 30000 in
theorem ml_Ta_88 : Cond.methodLink R_Ta 88 y_Ta_kindOfField ∈ UW := UW_of (lw_at2 93 rfl) rfl
set_option maxRecDepth 30000 in
theorem ml_Ta_91 : Cond.methodLink R_Ta 91 y_Ki_elementOf ∈ UW := UW_of (lw_at2 97 rfl) rfl
set_option maxRecDepth 30000 in
theorem ml_La_45 : Cond.methodLink R_La 45 y_De_run ∈ UW := UW_of (lw_at2 100 rfl) rfl
set_option maxRecDepth 30000 in
theorem ml_De_68 : Cond.methodLink R_De 68 y_Ta_switchTo ∈ UW := UW_of (lw_at2 104 rfl) rfl
set_option maxRecDepth 30000 in
theorem ml_De_72 : Cond.methodLink R_De 72 y_De_endWaiting ∈ UW := UW_of (lw_at2 108 rfl) rfl
set_option maxRecDepth 30000 in
theorem ml_De_146 : Cond.methodLink R_De 146 y_Li_forget ∈ UW := UW_of (lw_at2 112 rfl) rfl
set_option maxRecDepth 30000 in
theorem ml_Li_32 : Cond.methodLink R_Li 32 y_Ja_fill ∈ UW := UW_of (lw_at2 116 rfl) rfl
set_option maxRecDepth 30000 in
theorem ml_De_97 : Cond.methodLink R_De 97 y_Ev_state ∈ UW := UW_of (lw_at2 117 rfl) rfl
set_option maxRecDepth 30000 in
theorem ml_De_124 : Cond.methodLink R_De 124 y_Ev_stopWaiting ∈ UW := UW_of (lw_at2 121 rfl) rfl
set_option maxRecDepth 30000 in
theorem ml_La_50 : Cond.methodLink R_La 50 y_De_line ∈ UW := UW_of (lw_at2 125 rfl) rfl
set_option maxRecDepth 30000 in
theorem ml_De_76 : Cond.methodLink R_De 76 y_Li_switchTo ∈ UW := UW_of (lw_at2 129 rfl) rfl
set_option maxRecDepth 30000 in
theorem ml_La_54 : Cond.methodLink R_La 54 y_De_put ∈ UW := UW_of (lw_at2 133 rfl) rfl
set_option maxRecDepth 30000 in
theorem ml_La_59 : Cond.methodLink R_La 59 y_De_eval ∈ UW := UW_of (lw_at2 137 rfl) rfl
set_option maxRecDepth 30000 in
theorem ml_De_81 : Cond.methodLink R_De 81 y_De_isEvaluation ∈ UW := UW_of (lw_at2 141 rfl) rfl
set_option maxRecDepth 30000 in
theorem ml_De_85 : Cond.methodLink R_De 85 y_Ta_runs ∈ UW := UW_of (lw_at2 144 rfl) rfl
set_option maxRecDepth 30000 in
theorem ml_De_89 : Cond.methodLink R_De 89 y_Ev_takeText ∈ UW := UW_of (lw_at2 148 rfl) rfl
set_option maxRecDepth 30000 in
theorem ml_De_93 : Cond.methodLink R_De 93 y_Ev_begin ∈ UW := UW_of (lw_at2 155 rfl) rfl
set_option maxRecDepth 30000 in
theorem ml_Ev_68 : Cond.methodLink R_Ev 68 y_Re_reads ∈ UW := UW_of (lw_at2 159 rfl) rfl
set_option maxRecDepth 30000 in
theorem ml_Re_22 : Cond.methodLink R_Re 22 y_St_clear ∈ UW := UW_of (lw_at2 163 rfl) rfl
set_option maxRecDepth 30000 in
theorem ml_Re_37 : Cond.methodLink R_Re 37 y_To_split ∈ UW := UW_of (lw_at2 167 rfl) rfl
set_option maxRecDepth 30000 in
theorem ml_To_33 : Cond.methodLink R_To 33 y_To_readToken ∈ UW := UW_of (lw_at2 171 rfl) rfl
set_option maxRecDepth 30000 in
theorem ml_To_37 : Cond.methodLink R_To 37 y_To_isLetter ∈ UW := UW_of (lw_at2 175 rfl) rfl
set_option maxRecDepth 30000 in
theorem ml_To_41 : Cond.methodLink R_To 41 y_To_behindLetters ∈ UW := UW_of (lw_at2 178 rfl) rfl
set_option maxRecDepth 30000 in
theorem ml_To_44 : Cond.methodLink R_To 44 y_To_addLetter ∈ UW := UW_of (lw_at2 182 rfl) rfl
set_option maxRecDepth 30000 in
theorem ml_To_64 : Cond.methodLink R_To 64 y_To_add ∈ UW := UW_of (lw_at2 186 rfl) rfl
set_option maxRecDepth 30000 in
theorem ml_To_48 : Cond.methodLink R_To 48 y_To_addWord ∈ UW := UW_of (lw_at2 190 rfl) rfl
set_option maxRecDepth 30000 in
theorem ml_To_70 : Cond.methodLink R_To 70 y_To_stands ∈ UW := UW_of (lw_at2 195 rfl) rfl
set_option maxRecDepth 30000 in
theorem ml_To_95 : Cond.methodLink R_To 95 y_Js_length ∈ UW := UW_of (lw_at2 199 rfl) rfl
set_option maxRecDepth 30000 in
theorem ml_Js_335 : Cond.methodLink R_Js 335 y_Js_coder ∈ UW := UW_of (lw_at2 203 rfl) rfl
set_option maxRecDepth 30000 in
theorem ml_To_100 : Cond.methodLink R_To 100 y_Js_charAt ∈ UW := UW_of (lw_at2 209 rfl) rfl
set_option maxRecDepth 30000 in
theorem ml_Js_492 : Cond.methodLink R_Js 492 y_Js_isLatin1 ∈ UW := UW_of (lw_at2 213 rfl) rfl
set_option maxRecDepth 30000 in
theorem ml_Js_495 : Cond.methodLink R_Js 495 y_Jl_charAt ∈ UW := UW_of (lw_at2 217 rfl) rfl
set_option maxRecDepth 30000 in
theorem ml_Jl_9 : Cond.methodLink R_Jl 9 y_Js_checkIndex ∈ UW := UW_of (lw_at2 220 rfl) rfl
set_option maxRecDepth 30000 in
theorem ml_Js_1059 : Cond.methodLink R_Js 1059 y_Jp_checkIndex ∈ UW := UW_of (lw_at2 225 rfl) rfl
set_option maxRecDepth 30000 in
theorem ml_To_52 : Cond.methodLink R_To 52 y_To_isDigit ∈ UW := UW_of (lw_at3 18 rfl) rfl
set_option maxRecDepth 30000 in
theorem ml_To_55 : Cond.methodLink R_To 55 y_To_readNumber ∈ UW := UW_of (lw_at3 21 rfl) rfl
set_option maxRecDepth 30000 in
theorem ml_To_104 : Cond.methodLink R_To 104 y_To_behindDigits ∈ UW := UW_of (lw_at3 25 rfl) rfl
set_option maxRecDepth 30000 in
theorem ml_To_107 : Cond.methodLink R_To 107 y_To_charAt ∈ UW := UW_of (lw_at3 29 rfl) rfl
set_option maxRecDepth 30000 in
theorem ml_To_58 : Cond.methodLink R_To 58 y_To_readCharacter ∈ UW := UW_of (lw_at3 35 rfl) rfl
set_option maxRecDepth 30000 in
theorem ml_To_61 : Cond.methodLink R_To 61 y_To_readSign ∈ UW := UW_of (lw_at3 39 rfl) rfl
set_option maxRecDepth 30000 in
theorem ml_To_112 : Cond.methodLink R_To 112 y_To_signAt ∈ UW := UW_of (lw_at3 43 rfl) rfl
set_option maxRecDepth 30000 in
theorem ml_To_117 : Cond.methodLink R_To 117 y_Js_indexOf1 ∈ UW := UW_of (lw_at3 48 rfl) rfl
set_option maxRecDepth 30000 in
theorem ml_Js_633 : Cond.methodLink R_Js 633 y_Js_indexOf2 ∈ UW := UW_of (lw_at3 52 rfl) rfl
set_option maxRecDepth 30000 in
theorem ml_Js_505 : Cond.methodLink R_Js 505 y_Js_length ∈ UW := UW_of (lw_at3 56 rfl) rfl
set_option maxRecDepth 30000 in
theorem ml_Js_637 : Cond.methodLink R_Js 637 y_Jl_indexOf ∈ UW := UW_of (lw_at3 57 rfl) rfl
set_option maxRecDepth 30000 in
theorem ml_Jl_88 : Cond.methodLink R_Jl 88 y_Jl_canEncode ∈ UW := UW_of (lw_at3 60 rfl) rfl
set_option maxRecDepth 30000 in
theorem ml_Jl_95 : Cond.methodLink R_Jl 95 y_Jl_indexOfChar ∈ UW := UW_of (lw_at3 69 rfl) rfl
set_option maxRecDepth 30000 in
theorem ml_Re_41 : Cond.methodLink R_Re 41 y_Re_readChoice ∈ UW := UW_of (lw_at3 107 rfl) rfl
set_option maxRecDepth 30000 in
theorem ml_Re_48 : Cond.methodLink R_Re 48 y_Re_readBinary ∈ UW := UW_of (lw_at3 111 rfl) rfl
set_option maxRecDepth 30000 in
theorem ml_Re_72 : Cond.methodLink R_Re 72 y_Re_readUnary ∈ UW := UW_of (lw_at3 115 rfl) rfl
set_option maxRecDepth 30000 in
theorem ml_Re_45 : Cond.methodLink R_Re 45 y_To_codeAt ∈ UW := UW_of (lw_at3 119 rfl) rfl
set_option maxRecDepth 30000 in
theorem ml_Re_93 : Cond.methodLink R_Re 93 y_Re_readCast ∈ UW := UW_of (lw_at3 123 rfl) rfl
set_option maxRecDepth 30000 in
theorem ml_Re_84 : Cond.methodLink R_Re 84 y_To_numberAt ∈ UW := UW_of (lw_at3 127 rfl) rfl
set_option maxRecDepth 30000 in
theorem ml_Re_52 : Cond.methodLink R_Re 52 y_Re_takes ∈ UW := UW_of (lw_at3 131 rfl) rfl
set_option maxRecDepth 30000 in
theorem ml_Re_114 : Cond.methodLink R_Re 114 y_Ki_arrayOf ∈ UW := UW_of (lw_at3 135 rfl) rfl
set_option maxRecDepth 30000 in
theorem ml_Ki_9 : Cond.methodLink R_Ki 9 y_Ki_isClass ∈ UW := UW_of (lw_at3 138 rfl) rfl
set_option maxRecDepth 30000 in
theorem ml_Re_56 : Cond.methodLink R_Re 56 y_St_add ∈ UW := UW_of (lw_at3 139 rfl) rfl
set_option maxRecDepth 30000 in
theorem ml_St_35 : Cond.methodLink R_St 35 y_St_addThree ∈ UW := UW_of (lw_at3 143 rfl) rfl
set_option maxRecDepth 30000 in
theorem ml_Re_96 : Cond.methodLink R_Re 96 y_Re_unaryCode ∈ UW := UW_of (lw_at3 147 rfl) rfl
set_option maxRecDepth 30000 in
theorem ml_Re_99 : Cond.methodLink R_Re 99 y_Re_readOperand ∈ UW := UW_of (lw_at3 150 rfl) rfl
set_option maxRecDepth 30000 in
theorem ml_Re_117 : Cond.methodLink R_Re 117 y_Re_readFirst ∈ UW := UW_of (lw_at3 154 rfl) rfl
set_option maxRecDepth 30000 in
theorem ml_Re_123 : Cond.methodLink R_Re 123 y_Re_readEnclosed ∈ UW := UW_of (lw_at3 158 rfl) rfl
set_option maxRecDepth 30000 in
theorem ml_Re_102 : Cond.methodLink R_Re 102 y_Re_isTooLarge ∈ UW := UW_of (lw_at3 162 rfl) rfl
set_option maxRecDepth 30000 in
theorem ml_Re_109 : Cond.methodLink R_Re 109 y_To_kindAt ∈ UW := UW_of (lw_at3 166 rfl) rfl
set_option maxRecDepth 30000 in
theorem ml_Re_106 : Cond.methodLink R_Re 106 y_Re_readConstant ∈ UW := UW_of (lw_at3 171 rfl) rfl
set_option maxRecDepth 30000 in
theorem ml_Re_127 : Cond.methodLink R_Re 127 y_St_addConstant ∈ UW := UW_of (lw_at3 175 rfl) rfl
set_option maxRecDepth 30000 in
theorem ml_Re_120 : Cond.methodLink R_Re 120 y_Re_readPart ∈ UW := UW_of (lw_at3 179 rfl) rfl
set_option maxRecDepth 30000 in
theorem ml_Re_75 : Cond.methodLink R_Re 75 y_Re_levelOf ∈ UW := UW_of (lw_at3 183 rfl) rfl
set_option maxRecDepth 30000 in
theorem ml_Re_78 : Cond.methodLink R_Re 78 y_Re_readClassBehind ∈ UW := UW_of (lw_at3 186 rfl) rfl
set_option maxRecDepth 30000 in
theorem ml_Re_88 : Cond.methodLink R_Re 88 y_Ki_isClass ∈ UW := UW_of (lw_at3 190 rfl) rfl
set_option maxRecDepth 30000 in
theorem ml_Re_81 : Cond.methodLink R_Re 81 y_Re_readRight ∈ UW := UW_of (lw_at3 191 rfl) rfl
set_option maxRecDepth 30000 in
theorem ml_Re_60 : Cond.methodLink R_Re 60 y_St_size ∈ UW := UW_of (lw_at3 195 rfl) rfl
set_option maxRecDepth 30000 in
theorem ml_Re_64 : Cond.methodLink R_Re 64 y_St_leadSkip ∈ UW := UW_of (lw_at3 199 rfl) rfl
set_option maxRecDepth 30000 in
theorem ml_Re_68 : Cond.methodLink R_Re 68 y_St_addThree ∈ UW := UW_of (lw_at3 203 rfl) rfl
set_option maxRecDepth 30000 in
theorem ml_Ev_74 : Cond.methodLink R_Ev 74 y_Ck_isWellTyped ∈ UW := UW_of (lw_at3 204 rfl) rfl
set_option maxRecDepth 30000 in
theorem ml_Ck_19 : Cond.methodLink R_Ck 19 y_St_size ∈ UW := UW_of (lw_at3 208 rfl) rfl
set_option maxRecDepth 30000 in
theorem ml_Ck_25 : Cond.methodLink R_Ck 25 y_Ck_kindOfStep ∈ UW := UW_of (lw_at3 209 rfl) rfl
set_option maxRecDepth 30000 in
theorem ml_Ck_33 : Cond.methodLink R_Ck 33 y_St_firstOf ∈ UW := UW_of (lw_at3 213 rfl) rfl
set_option maxRecDepth 30000 in
theorem ml_Ck_36 : Cond.methodLink R_Ck 36 y_St_kindAt ∈ UW := UW_of (lw_at3 217 rfl) rfl
set_option maxRecDepth 30000 in
theorem ml_Ck_39 : Cond.methodLink R_Ck 39 y_St_secondOf ∈ UW := UW_of (lw_at3 221 rfl) rfl
set_option maxRecDepth 30000 in
theorem ml_Ck_42 : Cond.methodLink R_Ck 42 y_St_codeAt ∈ UW := UW_of (lw_at3 225 rfl) rfl
set_option maxRecDepth 30000 in
theorem ml_Ck_45 : Cond.methodLink R_Ck 45 y_Ta_kindOfVariable ∈ UW := UW_of (lw_at3 229 rfl) rfl
set_option maxRecDepth 30000 in
theorem ml_Ck_50 : Cond.methodLink R_Ck 50 y_Ta_kindOfField ∈ UW := UW_of (lw_at3 230 rfl) rfl
set_option maxRecDepth 30000 in
theorem ml_Ck_54 : Cond.methodLink R_Ck 54 y_Ki_isArray ∈ UW := UW_of (lw_at3 231 rfl) rfl
set_option maxRecDepth 30000 in
theorem ml_Ck_60 : Cond.methodLink R_Ck 60 y_Ck_canCast ∈ UW := UW_of (lw_at3 232 rfl) rfl
set_option maxRecDepth 30000 in
theorem ml_Ck_87 : Cond.methodLink R_Ck 87 y_Ki_isNumeric ∈ UW := UW_of (lw_at3 236 rfl) rfl
set_option maxRecDepth 30000 in
theorem ml_Ck_90 : Cond.methodLink R_Ck 90 y_Ki_areBoolean ∈ UW := UW_of (lw_at3 239 rfl) rfl
set_option maxRecDepth 30000 in
theorem ml_Ck_64 : Cond.methodLink R_Ck 64 y_Ta_isThere ∈ UW := UW_of (lw_at4 2 rfl) rfl
set_option maxRecDepth 30000 in
theorem ml_Ck_67 : Cond.methodLink R_Ck 67 y_Ta_areRelated ∈ UW := UW_of (lw_at4 3 rfl) rfl
set_option maxRecDepth 30000 in
theorem ml_Ck_70 : Cond.methodLink R_Ck 70 y_Ck_booleanIf ∈ UW := UW_of (lw_at4 7 rfl) rfl
set_option maxRecDepth 30000 in
theorem ml_Ck_74 : Cond.methodLink R_Ck 74 y_Ki_promoted ∈ UW := UW_of (lw_at4 10 rfl) rfl
set_option maxRecDepth 30000 in
theorem ml_Ki_18 : Cond.methodLink R_Ki 18 y_Ki_common ∈ UW := UW_of (lw_at4 13 rfl) rfl
set_option maxRecDepth 30000 in
theorem ml_Ki_15 : Cond.methodLink R_Ki 15 y_Ki_isNumeric ∈ UW := UW_of (lw_at4 16 rfl) rfl
set_option maxRecDepth 30000 in
theorem ml_Ck_77 : Cond.methodLink R_Ck 77 y_St_thirdOf ∈ UW := UW_of (lw_at4 17 rfl) rfl
set_option maxRecDepth 30000 in
theorem ml_Ck_80 : Cond.methodLink R_Ck 80 y_Ck_kindOfChoice ∈ UW := UW_of (lw_at4 21 rfl) rfl
set_option maxRecDepth 30000 in
theorem ml_Ck_93 : Cond.methodLink R_Ck 93 y_Ki_common ∈ UW := UW_of (lw_at4 25 rfl) rfl
set_option maxRecDepth 30000 in
theorem ml_Ck_96 : Cond.methodLink R_Ck 96 y_Ta_fits ∈ UW := UW_of (lw_at4 26 rfl) rfl
set_option maxRecDepth 30000 in
theorem ml_Ck_83 : Cond.methodLink R_Ck 83 y_Ck_kindOfTwo ∈ UW := UW_of (lw_at4 27 rfl) rfl
set_option maxRecDepth 30000 in
theorem ml_Ck_99 : Cond.methodLink R_Ck 99 y_Ck_kindOfElement ∈ UW := UW_of (lw_at4 31 rfl) rfl
set_option maxRecDepth 30000 in
theorem ml_Ck_102 : Cond.methodLink R_Ck 102 y_Ki_elementOf ∈ UW := UW_of (lw_at4 34 rfl) rfl
set_option maxRecDepth 30000 in
theorem ml_Ck_29 : Cond.methodLink R_Ck 29 y_St_setKind ∈ UW := UW_of (lw_at4 35 rfl) rfl
set_option maxRecDepth 30000 in
theorem ml_Ev_48 : Cond.methodLink R_Ev 48 y_St_size ∈ UW := UW_of (lw_at4 39 rfl) rfl
set_option maxRecDepth 30000 in
theorem ml_Ev_80 : Cond.methodLink R_Ev 80 y_St_kindAt ∈ UW := UW_of (lw_at4 40 rfl) rfl
set_option maxRecDepth 30000 in
theorem ml_Ev_84 : Cond.methodLink R_Ev 84 y_Ev_goOn ∈ UW := UW_of (lw_at4 41 rfl) rfl
set_option maxRecDepth 30000 in
theorem ml_Ev_87 : Cond.methodLink R_Ev 87 y_Ev_workOut ∈ UW := UW_of (lw_at4 45 rfl) rfl
set_option maxRecDepth 30000 in
theorem ml_Ev_118 : Cond.methodLink R_Ev 118 y_St_firstOf ∈ UW := UW_of (lw_at4 49 rfl) rfl
set_option maxRecDepth 30000 in
theorem ml_Ev_52 : Cond.methodLink R_Ev 52 y_St_valueAt ∈ UW := UW_of (lw_at4 50 rfl) rfl
set_option maxRecDepth 30000 in
theorem ml_Ev_121 : Cond.methodLink R_Ev 121 y_St_secondOf ∈ UW := UW_of (lw_at4 54 rfl) rfl
set_option maxRecDepth 30000 in
theorem ml_Ev_124 : Cond.methodLink R_Ev 124 y_St_codeAt ∈ UW := UW_of (lw_at4 55 rfl) rfl
set_option maxRecDepth 30000 in
theorem ml_Ev_131 : Cond.methodLink R_Ev 131 y_Ev_fetch ∈ UW := UW_of (lw_at4 57 rfl) rfl
set_option maxRecDepth 30000 in
theorem ml_Ev_107 : Cond.methodLink R_Ev 107 y_Ev_has ∈ UW := UW_of (lw_at4 61 rfl) rfl
set_option maxRecDepth 30000 in
theorem ml_Ev_98 : Cond.methodLink R_Ev 98 y_Li_knows ∈ UW := UW_of (lw_at4 65 rfl) rfl
set_option maxRecDepth 30000 in
theorem ml_Ev_104 : Cond.methodLink R_Ev 104 y_Li_ask ∈ UW := UW_of (lw_at4 69 rfl) rfl
set_option maxRecDepth 30000 in
theorem ml_Ev_110 : Cond.methodLink R_Ev 110 y_Ta_contentsOf ∈ UW := UW_of (lw_at4 73 rfl) rfl
set_option maxRecDepth 30000 in
theorem ml_Ev_115 : Cond.methodLink R_Ev 115 y_Ev_settle ∈ UW := UW_of (lw_at4 77 rfl) rfl
set_option maxRecDepth 30000 in
theorem ml_Ev_94 : Cond.methodLink R_Ev 94 y_St_setValue ∈ UW := UW_of (lw_at4 81 rfl) rfl
set_option maxRecDepth 30000 in
theorem ml_Ev_135 : Cond.methodLink R_Ev 135 y_Ev_workOutPart ∈ UW := UW_of (lw_at4 85 rfl) rfl
set_option maxRecDepth 30000 in
theorem ml_Ev_157 : Cond.methodLink R_Ev 157 y_Ev_fail ∈ UW := UW_of (lw_at4 89 rfl) rfl
set_option maxRecDepth 30000 in
theorem ml_Ev_139 : Cond.methodLink R_Ev 139 y_Ev_workOutElement ∈ UW := UW_of (lw_at4 93 rfl) rfl
set_option maxRecDepth 30000 in
theorem ml_Ev_143 : Cond.methodLink R_Ev 143 y_Ev_workOutInstanceof ∈ UW := UW_of (lw_at4 97 rfl) rfl
set_option maxRecDepth 30000 in
theorem ml_Ev_160 : Cond.methodLink R_Ev 160 y_Ev_fitsAnyway ∈ UW := UW_of (lw_at4 101 rfl) rfl
set_option maxRecDepth 30000 in
theorem ml_Ev_176 : Cond.methodLink R_Ev 176 y_Ta_fits ∈ UW := UW_of (lw_at4 105 rfl) rfl
set_option maxRecDepth 30000 in
theorem ml_Ev_164 : Cond.methodLink R_Ev 164 y_Ev_isObjectOf ∈ UW := UW_of (lw_at4 106 rfl) rfl
set_option maxRecDepth 30000 in
theorem ml_Ev_146 : Cond.methodLink R_Ev 146 y_Ev_workOutCast ∈ UW := UW_of (lw_at4 110 rfl) rfl
set_option maxRecDepth 30000 in
theorem ml_Ev_167 : Cond.methodLink R_Ev 167 y_Ki_isReference ∈ UW := UW_of (lw_at4 114 rfl) rfl
set_option maxRecDepth 30000 in
theorem ml_Ev_172 : Cond.methodLink R_Ev 172 y_Ki_narrowed ∈ UW := UW_of (lw_at4 115 rfl) rfl
set_option maxRecDepth 30000 in
theorem ml_Ev_150 : Cond.methodLink R_Ev 150 y_St_thirdOf ∈ UW := UW_of (lw_at4 116 rfl) rfl
set_option maxRecDepth 30000 in
theorem ml_Ev_153 : Cond.methodLink R_Ev 153 y_Ev_workOutSign ∈ UW := UW_of (lw_at4 117 rfl) rfl
set_option maxRecDepth 30000 in
theorem ml_Ev_179 : Cond.methodLink R_Ev 179 y_Ev_shifted ∈ UW := UW_of (lw_at4 121 rfl) rfl
set_option maxRecDepth 30000 in
theorem ml_Ev_183 : Cond.methodLink R_Ev 183 y_Ev_changed ∈ UW := UW_of (lw_at4 126 rfl) rfl
set_option maxRecDepth 30000 in
theorem ml_Ev_186 : Cond.methodLink R_Ev 186 y_Ev_combined ∈ UW := UW_of (lw_at4 130 rfl) rfl
set_option maxRecDepth 30000 in
theorem ml_Ev_190 : Cond.methodLink R_Ev 190 y_Ev_holds ∈ UW := UW_of (lw_at4 133 rfl) rfl
set_option maxRecDepth 30000 in
theorem ml_La_63 : Cond.methodLink R_La 63 y_De_again ∈ UW := UW_of (lw_at4 137 rfl) rfl
set_option maxRecDepth 30000 in
theorem ml_La_67 : Cond.methodLink R_La 67 y_De_request ∈ UW := UW_of (lw_at4 141 rfl) rfl
set_option maxRecDepth 30000 in
theorem ml_De_100 : Cond.methodLink R_De 100 y_Li_hasRequest ∈ UW := UW_of (lw_at4 145 rfl) rfl
set_option maxRecDepth 30000 in
theorem ml_De_103 : Cond.methodLink R_De 103 y_Li_placeAsked ∈ UW := UW_of (lw_at4 149 rfl) rfl
set_option maxRecDepth 30000 in
theorem ml_De_106 : Cond.methodLink R_De 106 y_Ta_sortOfPiece ∈ UW := UW_of (lw_at4 153 rfl) rfl
set_option maxRecDepth 30000 in
theorem ml_De_109 : Cond.methodLink R_De 109 y_Li_sentBefore ∈ UW := UW_of (lw_at4 157 rfl) rfl
set_option maxRecDepth 30000 in
theorem ml_La_71 : Cond.methodLink R_La 71 y_De_answer ∈ UW := UW_of (lw_at4 161 rfl) rfl
set_option maxRecDepth 30000 in
theorem ml_De_112 : Cond.methodLink R_De 112 y_Li_drop ∈ UW := UW_of (lw_at4 165 rfl) rfl
set_option maxRecDepth 30000 in
theorem ml_De_115 : Cond.methodLink R_De 115 y_Li_learn ∈ UW := UW_of (lw_at4 169 rfl) rfl
set_option maxRecDepth 30000 in
theorem ml_De_118 : Cond.methodLink R_De 118 y_Ev_waitsFor ∈ UW := UW_of (lw_at4 173 rfl) rfl
set_option maxRecDepth 30000 in
theorem ml_De_121 : Cond.methodLink R_De 121 y_Ev_goOn ∈ UW := UW_of (lw_at4 177 rfl) rfl
set_option maxRecDepth 30000 in
theorem ml_La_75 : Cond.methodLink R_La 75 y_De_refuse ∈ UW := UW_of (lw_at4 178 rfl) rfl
set_option maxRecDepth 30000 in
theorem ml_La_79 : Cond.methodLink R_La 79 y_De_look ∈ UW := UW_of (lw_at4 182 rfl) rfl
set_option maxRecDepth 30000 in
theorem ml_De_127 : Cond.methodLink R_De 127 y_Ev_kind ∈ UW := UW_of (lw_at4 186 rfl) rfl
set_option maxRecDepth 30000 in
theorem ml_De_130 : Cond.methodLink R_De 130 y_Ev_exception ∈ UW := UW_of (lw_at4 190 rfl) rfl
set_option maxRecDepth 30000 in
theorem ml_La_83 : Cond.methodLink R_La 83 y_De_value ∈ UW := UW_of (lw_at4 194 rfl) rfl
set_option maxRecDepth 30000 in
theorem ml_De_133 : Cond.methodLink R_De 133 y_Ev_result ∈ UW := UW_of (lw_at4 198 rfl) rfl
set_option maxRecDepth 30000 in
theorem ml_La_88 : Cond.methodLink R_La 88 y_De_count ∈ UW := UW_of (lw_at4 202 rfl) rfl
set_option maxRecDepth 30000 in
theorem ml_De_137 : Cond.methodLink R_De 137 y_Li_waitingCount ∈ UW := UW_of (lw_at4 206 rfl) rfl
set_option maxRecDepth 30000 in
theorem ml_De_140 : Cond.methodLink R_De 140 y_Li_sentCount ∈ UW := UW_of (lw_at4 210 rfl) rfl
set_option maxRecDepth 30000 in
theorem ml_De_143 : Cond.methodLink R_De 143 y_Li_knownCount ∈ UW := UW_of (lw_at4 214 rfl) rfl
set_option maxRecDepth 30000 in
theorem ml_Li_38 : Cond.methodLink R_Li 38 y_Ji_bitCount ∈ UW := UW_of (lw_at4 218 rfl) rfl
set_option maxRecDepth 30000 in
theorem ml_La_12 : Cond.methodLink R_La 12 y_Mo_init ∈ UW := UW_of (lw_at4 226 rfl) rfl
set_option maxRecDepth 30000 in
theorem ml_Mo_1 : Cond.methodLink R_Mo 1 objectInit ∈ UW := UW_of (lw_at4 229 rfl) rfl
set_option maxRecDepth 30000 in
theorem ml_La_17 : Cond.methodLink R_La 17 y_Mo_addClass ∈ UW := UW_of (lw_at5 136 rfl) rfl
set_option maxRecDepth 30000 in
theorem ml_La_22 : Cond.methodLink R_La 22 y_Mo_addField ∈ UW := UW_of (lw_at5 140 rfl) rfl
set_option maxRecDepth 30000 in
theorem ml_Mo_105 : Cond.methodLink R_Mo 105 y_Mo_in ∈ UW := UW_of (lw_at5 144 rfl) rfl
set_option maxRecDepth 30000 in
theorem ml_Mo_127 : Cond.methodLink R_Mo 127 y_Mo_isKind ∈ UW := UW_of (lw_at5 147 rfl) rfl
set_option maxRecDepth 30000 in
theorem ml_Mo_117 : Cond.methodLink R_Mo 117 y_Mo_isA ∈ UW := UW_of (lw_at5 151 rfl) rfl
set_option maxRecDepth 30000 in
theorem ml_La_27 : Cond.methodLink R_La 27 y_Mo_addVariable ∈ UW := UW_of (lw_at5 155 rfl) rfl
set_option maxRecDepth 30000 in
theorem ml_La_32 : Cond.methodLink R_La 32 y_Mo_make ∈ UW := UW_of (lw_at5 159 rfl) rfl
set_option maxRecDepth 30000 in
theorem ml_La_39 : Cond.methodLink R_La 39 y_Mo_setVariable ∈ UW := UW_of (lw_at5 163 rfl) rfl
set_option maxRecDepth 30000 in
theorem ml_Mo_138 : Cond.methodLink R_Mo 138 y_Mo_valid ∈ UW := UW_of (lw_at5 167 rfl) rfl
set_option maxRecDepth 30000 in
theorem ml_Mo_120 : Cond.methodLink R_Mo 120 y_Mo_suits ∈ UW := UW_of (lw_at5 172 rfl) rfl
set_option maxRecDepth 30000 in
theorem ml_Mo_113 : Cond.methodLink R_Mo 113 y_Mo_reference ∈ UW := UW_of (lw_at5 176 rfl) rfl
set_option maxRecDepth 30000 in
theorem ml_La_44 : Cond.methodLink R_La 44 y_Mo_setPart ∈ UW := UW_of (lw_at5 179 rfl) rfl
set_option maxRecDepth 30000 in
theorem ml_Mo_142 : Cond.methodLink R_Mo 142 y_Mo_fieldOf ∈ UW := UW_of (lw_at5 183 rfl) rfl
set_option maxRecDepth 30000 in
theorem ml_Mo_146 : Cond.methodLink R_Mo 146 y_Mo_elementOf ∈ UW := UW_of (lw_at5 187 rfl) rfl
set_option maxRecDepth 30000 in
theorem ml_La_49 : Cond.methodLink R_La 49 y_Mo_run ∈ UW := UW_of (lw_at5 190 rfl) rfl
set_option maxRecDepth 30000 in
theorem ml_Mo_153 : Cond.methodLink R_Mo 153 y_Mo_forget ∈ UW := UW_of (lw_at5 194 rfl) rfl
set_option maxRecDepth 30000 in
theorem ml_La_53 : Cond.methodLink R_La 53 y_Mo_line ∈ UW := UW_of (lw_at5 198 rfl) rfl
set_option maxRecDepth 30000 in
theorem ml_La_58 : Cond.methodLink R_La 58 y_Mo_put ∈ UW := UW_of (lw_at5 202 rfl) rfl
set_option maxRecDepth 30000 in
theorem ml_La_62 : Cond.methodLink R_La 62 y_Mo_eval ∈ UW := UW_of (lw_at5 206 rfl) rfl
set_option maxRecDepth 30000 in
theorem ml_Mo_325 : Cond.methodLink R_Mo 325 y_Mo_go ∈ UW := UW_of (lw_at5 210 rfl) rfl
set_option maxRecDepth 30000 in
theorem ml_Mo_307 : Cond.methodLink R_Mo 307 y_Mo_split ∈ UW := UW_of (lw_at5 214 rfl) rfl
set_option maxRecDepth 30000 in
theorem ml_Mo_169 : Cond.methodLink R_Mo 169 y_Mo_at ∈ UW := UW_of (lw_at5 218 rfl) rfl
set_option maxRecDepth 30000 in
theorem ml_Mo_172 : Cond.methodLink R_Mo 172 y_Mo_letter ∈ UW := UW_of (lw_at5 222 rfl) rfl
set_option maxRecDepth 30000 in
theorem ml_Mo_160 : Cond.methodLink R_Mo 160 y_Mo_small ∈ UW := UW_of (lw_at5 225 rfl) rfl
set_option maxRecDepth 30000 in
theorem ml_Mo_175 : Cond.methodLink R_Mo 175 y_Mo_word ∈ UW := UW_of (lw_at5 228 rfl) rfl
set_option maxRecDepth 30000 in
theorem ml_Mo_184 : Cond.methodLink R_Mo 184 y_Mo_add ∈ UW := UW_of (lw_at5 232 rfl) rfl
set_option maxRecDepth 30000 in
theorem ml_Mo_191 : Cond.methodLink R_Mo 191 y_Mo_spell ∈ UW := UW_of (lw_at5 236 rfl) rfl
set_option maxRecDepth 30000 in
theorem ml_Mo_178 : Cond.methodLink R_Mo 178 y_Mo_digit ∈ UW := UW_of (lw_at6 2 rfl) rfl
set_option maxRecDepth 30000 in
theorem ml_Mo_181 : Cond.methodLink R_Mo 181 y_Mo_number ∈ UW := UW_of (lw_at6 5 rfl) rfl
set_option maxRecDepth 30000 in
theorem ml_Mo_188 : Cond.methodLink R_Mo 188 y_Mo_sign ∈ UW := UW_of (lw_at6 12 rfl) rfl
set_option maxRecDepth 30000 in
theorem ml_Mo_310 : Cond.methodLink R_Mo 310 y_Mo_parse ∈ UW := UW_of (lw_at6 16 rfl) rfl
set_option maxRecDepth 30000 in
theorem ml_Mo_242 : Cond.methodLink R_Mo 242 y_Mo_leaf ∈ UW := UW_of (lw_at6 20 rfl) rfl
set_option maxRecDepth 30000 in
theorem ml_Mo_216 : Cond.methodLink R_Mo 216 y_Mo_top ∈ UW := UW_of (lw_at6 24 rfl) rfl
set_option maxRecDepth 30000 in
theorem ml_Mo_254 : Cond.methodLink R_Mo 254 y_Mo_tokenAt ∈ UW := UW_of (lw_at6 28 rfl) rfl
set_option maxRecDepth 30000 in
theorem ml_Mo_226 : Cond.methodLink R_Mo 226 y_Mo_node ∈ UW := UW_of (lw_at6 32 rfl) rfl
set_option maxRecDepth 30000 in
theorem ml_Mo_230 : Cond.methodLink R_Mo 230 y_Mo_push ∈ UW := UW_of (lw_at6 36 rfl) rfl
set_option maxRecDepth 30000 in
theorem ml_Mo_245 : Cond.methodLink R_Mo 245 y_Mo_before ∈ UW := UW_of (lw_at6 40 rfl) rfl
set_option maxRecDepth 30000 in
theorem ml_Mo_257 : Cond.methodLink R_Mo 257 y_Mo_hold ∈ UW := UW_of (lw_at6 44 rfl) rfl
set_option maxRecDepth 30000 in
theorem ml_Mo_248 : Cond.methodLink R_Mo 248 y_Mo_behind ∈ UW := UW_of (lw_at6 48 rfl) rfl
set_option maxRecDepth 30000 in
theorem ml_Mo_223 : Cond.methodLink R_Mo 223 y_Mo_pop ∈ UW := UW_of (lw_at6 52 rfl) rfl
set_option maxRecDepth 30000 in
theorem ml_Mo_251 : Cond.methodLink R_Mo 251 y_Mo_reduce ∈ UW := UW_of (lw_at6 56 rfl) rfl
set_option maxRecDepth 30000 in
theorem ml_Mo_220 : Cond.methodLink R_Mo 220 y_Mo_binds ∈ UW := UW_of (lw_at6 60 rfl) rfl
set_option maxRecDepth 30000 in
theorem ml_Mo_313 : Cond.methodLink R_Mo 313 y_Mo_check ∈ UW := UW_of (lw_at6 63 rfl) rfl
set_option maxRecDepth 30000 in
theorem ml_Mo_261 : Cond.methodLink R_Mo 261 y_Mo_numeric ∈ UW := UW_of (lw_at6 67 rfl) rfl
set_option maxRecDepth 30000 in
theorem ml_Mo_264 : Cond.methodLink R_Mo 264 y_Mo_common ∈ UW := UW_of (lw_at6 70 rfl) rfl
set_option maxRecDepth 30000 in
theorem ml_Mo_267 : Cond.methodLink R_Mo 267 y_Mo_related ∈ UW := UW_of (lw_at6 73 rfl) rfl
set_option maxRecDepth 30000 in
theorem ml_Mo_270 : Cond.methodLink R_Mo 270 y_Mo_either ∈ UW := UW_of (lw_at6 77 rfl) rfl
set_option maxRecDepth 30000 in
theorem ml_Mo_316 : Cond.methodLink R_Mo 316 y_Mo_work ∈ UW := UW_of (lw_at6 81 rfl) rfl
set_option maxRecDepth 30000 in
theorem ml_Mo_283 : Cond.methodLink R_Mo 283 y_Mo_lacks ∈ UW := UW_of (lw_at6 85 rfl) rfl
set_option maxRecDepth 30000 in
theorem ml_Mo_286 : Cond.methodLink R_Mo 286 y_Mo_compute ∈ UW := UW_of (lw_at6 89 rfl) rfl
set_option maxRecDepth 30000 in
theorem ml_Mo_289 : Cond.methodLink R_Mo 289 y_Mo_set ∈ UW := UW_of (lw_at6 93 rfl) rfl
set_option maxRecDepth 30000 in
theorem ml_Mo_292 : Cond.methodLink R_Mo 292 y_Mo_has ∈ UW := UW_of (lw_at6 97 rfl) rfl
set_option maxRecDepth 30000 in
theorem ml_Mo_273 : Cond.methodLink R_Mo 273 y_Mo_pieceOf ∈ UW := UW_of (lw_at6 101 rfl) rfl
set_option maxRecDepth 30000 in
theorem ml_Mo_298 : Cond.methodLink R_Mo 298 y_Mo_into ∈ UW := UW_of (lw_at6 106 rfl) rfl
set_option maxRecDepth 30000 in
theorem ml_Mo_301 : Cond.methodLink R_Mo 301 y_Mo_fit ∈ UW := UW_of (lw_at6 110 rfl) rfl
set_option maxRecDepth 30000 in
theorem ml_Mo_304 : Cond.methodLink R_Mo 304 y_Mo_reckon ∈ UW := UW_of (lw_at6 114 rfl) rfl
set_option maxRecDepth 30000 in
theorem ml_Mo_319 : Cond.methodLink R_Mo 319 y_Mo_send ∈ UW := UW_of (lw_at6 118 rfl) rfl
set_option maxRecDepth 30000 in
theorem ml_La_66 : Cond.methodLink R_La 66 y_Mo_again ∈ UW := UW_of (lw_at6 122 rfl) rfl
set_option maxRecDepth 30000 in
theorem ml_La_70 : Cond.methodLink R_La 70 y_Mo_request ∈ UW := UW_of (lw_at6 126 rfl) rfl
set_option maxRecDepth 30000 in
theorem ml_La_74 : Cond.methodLink R_La 74 y_Mo_answer ∈ UW := UW_of (lw_at6 130 rfl) rfl
set_option maxRecDepth 30000 in
theorem ml_Mo_328 : Cond.methodLink R_Mo 328 y_Mo_takeOut ∈ UW := UW_of (lw_at6 134 rfl) rfl
set_option maxRecDepth 30000 in
theorem ml_Mo_331 : Cond.methodLink R_Mo 331 y_Mo_waiting ∈ UW := UW_of (lw_at6 138 rfl) rfl
set_option maxRecDepth 30000 in
theorem ml_Mo_334 : Cond.methodLink R_Mo 334 y_Mo_ones ∈ UW := UW_of (lw_at6 142 rfl) rfl
set_option maxRecDepth 30000 in
theorem ml_La_78 : Cond.methodLink R_La 78 y_Mo_refuse ∈ UW := UW_of (lw_at6 145 rfl) rfl
set_option maxRecDepth 30000 in
theorem ml_La_82 : Cond.methodLink R_La 82 y_Mo_look ∈ UW := UW_of (lw_at6 149 rfl) rfl
set_option maxRecDepth 30000 in
theorem ml_La_87 : Cond.methodLink R_La 87 y_Mo_value ∈ UW := UW_of (lw_at6 153 rfl) rfl
set_option maxRecDepth 30000 in
theorem ml_La_91 : Cond.methodLink R_La 91 y_Mo_count ∈ UW := UW_of (lw_at6 157 rfl) rfl
set_option maxRecDepth 30000 in
theorem fl_Ta_9 : Cond.fieldLink R_Ta 9 (cT 6 0).1 (cT 6 0).2.1 (cT 6 0).2.2.1 ∈ UW := UW_of (lw_at1 39 rfl) rfl
set_option maxRecDepth 30000 in
theorem fl_Ta_15 : Cond.fieldLink R_Ta 15 (cT 6 1).1 (cT 6 1).2.1 (cT 6 1).2.2.1 ∈ UW := UW_of (lw_at1 40 rfl) rfl
set_option maxRecDepth 30000 in
theorem fl_Ta_18 : Cond.fieldLink R_Ta 18 (cT 6 2).1 (cT 6 2).2.1 (cT 6 2).2.2.1 ∈ UW := UW_of (lw_at1 41 rfl) rfl
set_option maxRecDepth 30000 in
theorem fl_Ta_21 : Cond.fieldLink R_Ta 21 (cT 6 3).1 (cT 6 3).2.1 (cT 6 3).2.2.1 ∈ UW := UW_of (lw_at1 42 rfl) rfl
set_option maxRecDepth 30000 in
theorem fl_Ta_38 : Cond.fieldLink R_Ta 38 (cT 6 4).1 (cT 6 4).2.1 (cT 6 4).2.2.1 ∈ UW := UW_of (lw_at1 43 rfl) rfl
set_option maxRecDepth 30000 in
theorem fl_Ta_58 : Cond.fieldLink R_Ta 58 (cT 6 5).1 (cT 6 5).2.1 (cT 6 5).2.2.1 ∈ UW := UW_of (lw_at1 44 rfl) rfl
set_option maxRecDepth 30000 in
theorem fl_Ta_25 : Cond.fieldLink R_Ta 25 (cT 6 6).1 (cT 6 6).2.1 (cT 6 6).2.2.1 ∈ UW := UW_of (lw_at1 45 rfl) rfl
set_option maxRecDepth 30000 in
theorem fl_Ta_35 : Cond.fieldLink R_Ta 35 (cT 6 7).1 (cT 6 7).2.1 (cT 6 7).2.2.1 ∈ UW := UW_of (lw_at1 46 rfl) rfl
set_option maxRecDepth 30000 in
theorem fl_Li_9 : Cond.fieldLink R_Li 9 (cT 3 0).1 (cT 3 0).2.1 (cT 3 0).2.2.1 ∈ UW := UW_of (lw_at1 73 rfl) rfl
set_option maxRecDepth 30000 in
theorem fl_Li_15 : Cond.fieldLink R_Li 15 (cT 3 1).1 (cT 3 1).2.1 (cT 3 1).2.2.1 ∈ UW := UW_of (lw_at1 74 rfl) rfl
set_option maxRecDepth 30000 in
theorem fl_Li_18 : Cond.fieldLink R_Li 18 (cT 3 2).1 (cT 3 2).2.1 (cT 3 2).2.2.1 ∈ UW := UW_of (lw_at1 75 rfl) rfl
set_option maxRecDepth 30000 in
theorem fl_Li_25 : Cond.fieldLink R_Li 25 (cT 3 3).1 (cT 3 3).2.1 (cT 3 3).2.2.1 ∈ UW := UW_of (lw_at1 76 rfl) rfl
set_option maxRecDepth 30000 in
theorem fl_Li_29 : Cond.fieldLink R_Li 29 (cT 3 4).1 (cT 3 4).2.1 (cT 3 4).2.2.1 ∈ UW := UW_of (lw_at1 77 rfl) rfl
set_option maxRecDepth 30000 in
theorem fl_Li_21 : Cond.fieldLink R_Li 21 (cT 3 5).1 (cT 3 5).2.1 (cT 3 5).2.2.1 ∈ UW := UW_of (lw_at1 78 rfl) rfl
set_option maxRecDepth 30000 in
theorem fl_To_9 : Cond.fieldLink R_To 9 (cT 7 0).1 (cT 7 0).2.1 (cT 7 0).2.2.1 ∈ UW := UW_of (lw_at1 104 rfl) rfl
set_option maxRecDepth 30000 in
theorem fl_To_15 : Cond.fieldLink R_To 15 (cT 7 1).1 (cT 7 1).2.1 (cT 7 1).2.2.1 ∈ UW := UW_of (lw_at1 105 rfl) rfl
set_option maxRecDepth 30000 in
theorem fl_To_18 : Cond.fieldLink R_To 18 (cT 7 2).1 (cT 7 2).2.1 (cT 7 2).2.2.1 ∈ UW := UW_of (lw_at1 106 rfl) rfl
set_option maxRecDepth 30000 in
theorem fl_To_30 : Cond.fieldLink R_To 30 (cT 7 3).1 (cT 7 3).2.1 (cT 7 3).2.2.1 ∈ UW := UW_of (lw_at1 107 rfl) rfl
set_option maxRecDepth 30000 in
theorem fl_To_22 : Cond.fieldLink R_To 22 (cT 7 4).1 (cT 7 4).2.1 (cT 7 4).2.2.1 ∈ UW := UW_of (lw_at1 108 rfl) rfl
set_option maxRecDepth 30000 in
theorem fl_To_26 : Cond.fieldLink R_To 26 (cT 7 5).1 (cT 7 5).2.1 (cT 7 5).2.2.1 ∈ UW := UW_of (lw_at1 109 rfl) rfl
set_option maxRecDepth 30000 in
theorem fl_Re_12 : Cond.fieldLink R_Re 12 (cT 4 0).1 (cT 4 0).2.1 (cT 4 0).2.2.1 ∈ UW := UW_of (lw_at1 123 rfl) rfl
set_option maxRecDepth 30000 in
theorem fl_Re_18 : Cond.fieldLink R_Re 18 (cT 4 1).1 (cT 4 1).2.1 (cT 4 1).2.2.1 ∈ UW := UW_of (lw_at1 124 rfl) rfl
set_option maxRecDepth 30000 in
theorem fl_Re_27 : Cond.fieldLink R_Re 27 (cT 4 2).1 (cT 4 2).2.1 (cT 4 2).2.2.1 ∈ UW := UW_of (lw_at1 125 rfl) rfl
set_option maxRecDepth 30000 in
theorem fl_Re_31 : Cond.fieldLink R_Re 31 (cT 4 3).1 (cT 4 3).2.1 (cT 4 3).2.2.1 ∈ UW := UW_of (lw_at1 126 rfl) rfl
set_option maxRecDepth 30000 in
theorem fl_Re_34 : Cond.fieldLink R_Re 34 (cT 4 4).1 (cT 4 4).2.1 (cT 4 4).2.2.1 ∈ UW := UW_of (lw_at1 127 rfl) rfl
set_option maxRecDepth 30000 in
theorem fl_Ck_9 : Cond.fieldLink R_Ck 9 (cT 0 0).1 (cT 0 0).2.1 (cT 0 0).2.2.1 ∈ UW := UW_of (lw_at1 145 rfl) rfl
set_option maxRecDepth 30000 in
theorem fl_Ck_15 : Cond.fieldLink R_Ck 15 (cT 0 1).1 (cT 0 1).2.1 (cT 0 1).2.2.1 ∈ UW := UW_of (lw_at1 146 rfl) rfl
set_option maxRecDepth 30000 in
theorem fl_St_9 : Cond.fieldLink R_St 9 (cT 5 0).1 (cT 5 0).2.1 (cT 5 0).2.2.1 ∈ UW := UW_of (lw_at1 163 rfl) rfl
set_option maxRecDepth 30000 in
theorem fl_St_15 : Cond.fieldLink R_St 15 (cT 5 1).1 (cT 5 1).2.1 (cT 5 1).2.2.1 ∈ UW := UW_of (lw_at1 164 rfl) rfl
set_option maxRecDepth 30000 in
theorem fl_St_18 : Cond.fieldLink R_St 18 (cT 5 2).1 (cT 5 2).2.1 (cT 5 2).2.2.1 ∈ UW := UW_of (lw_at1 165 rfl) rfl
set_option maxRecDepth 30000 in
theorem fl_St_21 : Cond.fieldLink R_St 21 (cT 5 3).1 (cT 5 3).2.1 (cT 5 3).2.2.1 ∈ UW := UW_of (lw_at1 166 rfl) rfl
set_option maxRecDepth 30000 in
theorem fl_St_24 : Cond.fieldLink R_St 24 (cT 5 4).1 (cT 5 4).2.1 (cT 5 4).2.2.1 ∈ UW := UW_of (lw_at1 167 rfl) rfl
set_option maxRecDepth 30000 in
theorem fl_St_27 : Cond.fieldLink R_St 27 (cT 5 5).1 (cT 5 5).2.1 (cT 5 5).2.2.1 ∈ UW := UW_of (lw_at1 168 rfl) rfl
set_option maxRecDepth 30000 in
theorem fl_St_31 : Cond.fieldLink R_St 31 (cT 5 6).1 (cT 5 6).2.1 (cT 5 6).2.2.1 ∈ UW := UW_of (lw_at1 169 rfl) rfl
set_option maxRecDepth 30000 in
theorem fl_Ev_29 : Cond.fieldLink R_Ev 29 (cT 1 0).1 (cT 1 0).2.1 (cT 1 0).2.2.1 ∈ UW := UW_of (lw_at1 185 rfl) rfl
set_option maxRecDepth 30000 in
theorem fl_Ev_33 : Cond.fieldLink R_Ev 33 (cT 1 1).1 (cT 1 1).2.1 (cT 1 1).2.2.1 ∈ UW := UW_of (lw_at1 186 rfl) rfl
set_option maxRecDepth 30000 in
theorem fl_Ev_37 : Cond.fieldLink R_Ev 37 (cT 1 2).1 (cT 1 2).2.1 (cT 1 2).2.2.1 ∈ UW := UW_of (lw_at1 187 rfl) rfl
set_option maxRecDepth 30000 in
theorem fl_Ev_41 : Cond.fieldLink R_Ev 41 (cT 1 3).1 (cT 1 3).2.1 (cT 1 3).2.2.1 ∈ UW := UW_of (lw_at1 188 rfl) rfl
set_option maxRecDepth 30000 in
theorem fl_Ev_12 : Cond.fieldLink R_Ev 12 (cT 1 4).1 (cT 1 4).2.1 (cT 1 4).2.2.1 ∈ UW := UW_of (lw_at1 189 rfl) rfl
set_option maxRecDepth 30000 in
theorem fl_Ev_18 : Cond.fieldLink R_Ev 18 (cT 1 5).1 (cT 1 5).2.1 (cT 1 5).2.2.1 ∈ UW := UW_of (lw_at1 190 rfl) rfl
set_option maxRecDepth 30000 in
theorem fl_Ev_62 : Cond.fieldLink R_Ev 62 (cT 1 6).1 (cT 1 6).2.1 (cT 1 6).2.2.1 ∈ UW := UW_of (lw_at1 191 rfl) rfl
set_option maxRecDepth 30000 in
theorem fl_Ev_22 : Cond.fieldLink R_Ev 22 (cT 1 7).1 (cT 1 7).2.1 (cT 1 7).2.2.1 ∈ UW := UW_of (lw_at1 192 rfl) rfl
set_option maxRecDepth 30000 in
theorem fl_Ev_26 : Cond.fieldLink R_Ev 26 (cT 1 8).1 (cT 1 8).2.1 (cT 1 8).2.2.1 ∈ UW := UW_of (lw_at1 193 rfl) rfl
set_option maxRecDepth 30000 in
theorem fl_Ev_45 : Cond.fieldLink R_Ev 45 (cT 1 9).1 (cT 1 9).2.1 (cT 1 9).2.2.1 ∈ UW := UW_of (lw_at1 194 rfl) rfl
set_option maxRecDepth 30000 in
theorem fl_Ev_65 : Cond.fieldLink R_Ev 65 (cT 1 10).1 (cT 1 10).2.1 (cT 1 10).2.2.1 ∈ UW := UW_of (lw_at1 195 rfl) rfl
set_option maxRecDepth 30000 in
theorem fl_Ev_91 : Cond.fieldLink R_Ev 91 (cT 1 11).1 (cT 1 11).2.1 (cT 1 11).2.2.1 ∈ UW := UW_of (lw_at1 196 rfl) rfl
set_option maxRecDepth 30000 in
theorem fl_De_36 : Cond.fieldLink R_De 36 (cT 8 0).1 (cT 8 0).2.1 (cT 8 0).2.2.1 ∈ UW := UW_of (lw_at1 222 rfl) rfl
set_option maxRecDepth 30000 in
theorem fl_De_40 : Cond.fieldLink R_De 40 (cT 8 1).1 (cT 8 1).2.1 (cT 8 1).2.2.1 ∈ UW := UW_of (lw_at1 223 rfl) rfl
set_option maxRecDepth 30000 in
theorem fl_De_11 : Cond.fieldLink R_De 11 (cT 8 2).1 (cT 8 2).2.1 (cT 8 2).2.2.1 ∈ UW := UW_of (lw_at1 224 rfl) rfl
set_option maxRecDepth 30000 in
theorem fl_De_15 : Cond.fieldLink R_De 15 (cT 8 3).1 (cT 8 3).2.1 (cT 8 3).2.2.1 ∈ UW := UW_of (lw_at1 225 rfl) rfl
set_option maxRecDepth 30000 in
theorem fl_De_77 : Cond.fieldLink R_De 77 (cT 8 4).1 (cT 8 4).2.1 (cT 8 4).2.2.1 ∈ UW := UW_of (lw_at1 226 rfl) rfl
set_option maxRecDepth 30000 in
theorem fl_Mo_109 : Cond.fieldLink R_Mo 109 (cT 9 0).1 (cT 9 0).2.1 (cT 9 0).2.2.1 ∈ UW := UW_of (lw_at4 230 rfl) rfl
set_option maxRecDepth 30000 in
theorem fl_Mo_7 : Cond.fieldLink R_Mo 7 (cT 9 1).1 (cT 9 1).2.1 (cT 9 1).2.2.1 ∈ UW := UW_of (lw_at4 231 rfl) rfl
set_option maxRecDepth 30000 in
theorem fl_Mo_13 : Cond.fieldLink R_Mo 13 (cT 9 2).1 (cT 9 2).2.1 (cT 9 2).2.2.1 ∈ UW := UW_of (lw_at4 232 rfl) rfl
set_option maxRecDepth 30000 in
theorem fl_Mo_16 : Cond.fieldLink R_Mo 16 (cT 9 3).1 (cT 9 3).2.1 (cT 9 3).2.2.1 ∈ UW := UW_of (lw_at4 233 rfl) rfl
set_option maxRecDepth 30000 in
theorem fl_Mo_19 : Cond.fieldLink R_Mo 19 (cT 9 4).1 (cT 9 4).2.1 (cT 9 4).2.2.1 ∈ UW := UW_of (lw_at4 234 rfl) rfl
set_option maxRecDepth 30000 in
theorem fl_Mo_130 : Cond.fieldLink R_Mo 130 (cT 9 5).1 (cT 9 5).2.1 (cT 9 5).2.2.1 ∈ UW := UW_of (lw_at4 235 rfl) rfl
set_option maxRecDepth 30000 in
theorem fl_Mo_23 : Cond.fieldLink R_Mo 23 (cT 9 6).1 (cT 9 6).2.1 (cT 9 6).2.2.1 ∈ UW := UW_of (lw_at4 236 rfl) rfl
set_option maxRecDepth 30000 in
theorem fl_Mo_26 : Cond.fieldLink R_Mo 26 (cT 9 7).1 (cT 9 7).2.1 (cT 9 7).2.2.1 ∈ UW := UW_of (lw_at4 237 rfl) rfl
set_option maxRecDepth 30000 in
theorem fl_Mo_29 : Cond.fieldLink R_Mo 29 (cT 9 8).1 (cT 9 8).2.1 (cT 9 8).2.2.1 ∈ UW := UW_of (lw_at4 238 rfl) rfl
set_option maxRecDepth 30000 in
theorem fl_Mo_133 : Cond.fieldLink R_Mo 133 (cT 9 9).1 (cT 9 9).2.1 (cT 9 9).2.2.1 ∈ UW := UW_of (lw_at4 239 rfl) rfl
set_option maxRecDepth 30000 in
theorem fl_Mo_123 : Cond.fieldLink R_Mo 123 (cT 9 10).1 (cT 9 10).2.1 (cT 9 10).2.2.1 ∈ UW := UW_of (lw_at5 0 rfl) rfl
set_option maxRecDepth 30000 in
theorem fl_Mo_157 : Cond.fieldLink R_Mo 157 (cT 9 11).1 (cT 9 11).2.1 (cT 9 11).2.2.1 ∈ UW := UW_of (lw_at5 1 rfl) rfl
set_option maxRecDepth 30000 in
theorem fl_Mo_32 : Cond.fieldLink R_Mo 32 (cT 9 12).1 (cT 9 12).2.1 (cT 9 12).2.2.1 ∈ UW := UW_of (lw_at5 2 rfl) rfl
set_option maxRecDepth 30000 in
theorem fl_Mo_35 : Cond.fieldLink R_Mo 35 (cT 9 13).1 (cT 9 13).2.1 (cT 9 13).2.2.1 ∈ UW := UW_of (lw_at5 3 rfl) rfl
set_option maxRecDepth 30000 in
theorem fl_Mo_38 : Cond.fieldLink R_Mo 38 (cT 9 14).1 (cT 9 14).2.1 (cT 9 14).2.2.1 ∈ UW := UW_of (lw_at5 4 rfl) rfl
set_option maxRecDepth 30000 in
theorem fl_Mo_42 : Cond.fieldLink R_Mo 42 (cT 9 15).1 (cT 9 15).2.1 (cT 9 15).2.2.1 ∈ UW := UW_of (lw_at5 5 rfl) rfl
set_option maxRecDepth 30000 in
theorem fl_Mo_45 : Cond.fieldLink R_Mo 45 (cT 9 16).1 (cT 9 16).2.1 (cT 9 16).2.2.1 ∈ UW := UW_of (lw_at5 6 rfl) rfl
set_option maxRecDepth 30000 in
theorem fl_Mo_48 : Cond.fieldLink R_Mo 48 (cT 9 17).1 (cT 9 17).2.1 (cT 9 17).2.2.1 ∈ UW := UW_of (lw_at5 7 rfl) rfl
set_option maxRecDepth 30000 in
theorem fl_Mo_51 : Cond.fieldLink R_Mo 51 (cT 9 18).1 (cT 9 18).2.1 (cT 9 18).2.2.1 ∈ UW := UW_of (lw_at5 8 rfl) rfl
set_option maxRecDepth 30000 in
theorem fl_Mo_54 : Cond.fieldLink R_Mo 54 (cT 9 19).1 (cT 9 19).2.1 (cT 9 19).2.2.1 ∈ UW := UW_of (lw_at5 9 rfl) rfl
set_option maxRecDepth 30000 in
theorem fl_Mo_57 : Cond.fieldLink R_Mo 57 (cT 9 20).1 (cT 9 20).2.1 (cT 9 20).2.2.1 ∈ UW := UW_of (lw_at5 10 rfl) rfl
set_option maxRecDepth 30000 in
theorem fl_Mo_150 : Cond.fieldLink R_Mo 150 (cT 9 21).1 (cT 9 21).2.1 (cT 9 21).2.2.1 ∈ UW := UW_of (lw_at5 11 rfl) rfl
set_option maxRecDepth 30000 in
theorem fl_Mo_60 : Cond.fieldLink R_Mo 60 (cT 9 22).1 (cT 9 22).2.1 (cT 9 22).2.2.1 ∈ UW := UW_of (lw_at5 12 rfl) rfl
set_option maxRecDepth 30000 in
theorem fl_Mo_63 : Cond.fieldLink R_Mo 63 (cT 9 23).1 (cT 9 23).2.1 (cT 9 23).2.2.1 ∈ UW := UW_of (lw_at5 13 rfl) rfl
set_option maxRecDepth 30000 in
theorem fl_Mo_322 : Cond.fieldLink R_Mo 322 (cT 9 24).1 (cT 9 24).2.1 (cT 9 24).2.2.1 ∈ UW := UW_of (lw_at5 14 rfl) rfl
set_option maxRecDepth 30000 in
theorem fl_Mo_163 : Cond.fieldLink R_Mo 163 (cT 9 25).1 (cT 9 25).2.1 (cT 9 25).2.2.1 ∈ UW := UW_of (lw_at5 15 rfl) rfl
set_option maxRecDepth 30000 in
theorem fl_Mo_66 : Cond.fieldLink R_Mo 66 (cT 9 26).1 (cT 9 26).2.1 (cT 9 26).2.2.1 ∈ UW := UW_of (lw_at5 16 rfl) rfl
set_option maxRecDepth 30000 in
theorem fl_Mo_69 : Cond.fieldLink R_Mo 69 (cT 9 27).1 (cT 9 27).2.1 (cT 9 27).2.2.1 ∈ UW := UW_of (lw_at5 17 rfl) rfl
set_option maxRecDepth 30000 in
theorem fl_Mo_207 : Cond.fieldLink R_Mo 207 (cT 9 28).1 (cT 9 28).2.1 (cT 9 28).2.2.1 ∈ UW := UW_of (lw_at5 18 rfl) rfl
set_option maxRecDepth 30000 in
theorem fl_Mo_72 : Cond.fieldLink R_Mo 72 (cT 9 29).1 (cT 9 29).2.1 (cT 9 29).2.2.1 ∈ UW := UW_of (lw_at5 19 rfl) rfl
set_option maxRecDepth 30000 in
theorem fl_Mo_75 : Cond.fieldLink R_Mo 75 (cT 9 30).1 (cT 9 30).2.1 (cT 9 30).2.2.1 ∈ UW := UW_of (lw_at5 20 rfl) rfl
set_option maxRecDepth 30000 in
theorem fl_Mo_78 : Cond.fieldLink R_Mo 78 (cT 9 31).1 (cT 9 31).2.1 (cT 9 31).2.2.1 ∈ UW := UW_of (lw_at5 21 rfl) rfl
set_option maxRecDepth 30000 in
theorem fl_Mo_81 : Cond.fieldLink R_Mo 81 (cT 9 32).1 (cT 9 32).2.1 (cT 9 32).2.2.1 ∈ UW := UW_of (lw_at5 22 rfl) rfl
set_option maxRecDepth 30000 in
theorem fl_Mo_84 : Cond.fieldLink R_Mo 84 (cT 9 33).1 (cT 9 33).2.1 (cT 9 33).2.2.1 ∈ UW := UW_of (lw_at5 23 rfl) rfl
set_option maxRecDepth 30000 in
theorem fl_Mo_87 : Cond.fieldLink R_Mo 87 (cT 9 34).1 (cT 9 34).2.1 (cT 9 34).2.2.1 ∈ UW := UW_of (lw_at5 24 rfl) rfl
set_option maxRecDepth 30000 in
theorem fl_Mo_90 : Cond.fieldLink R_Mo 90 (cT 9 35).1 (cT 9 35).2.1 (cT 9 35).2.2.1 ∈ UW := UW_of (lw_at5 25 rfl) rfl
set_option maxRecDepth 30000 in
theorem fl_Mo_93 : Cond.fieldLink R_Mo 93 (cT 9 36).1 (cT 9 36).2.1 (cT 9 36).2.2.1 ∈ UW := UW_of (lw_at5 26 rfl) rfl
set_option maxRecDepth 30000 in
theorem fl_Mo_210 : Cond.fieldLink R_Mo 210 (cT 9 37).1 (cT 9 37).2.1 (cT 9 37).2.2.1 ∈ UW := UW_of (lw_at5 27 rfl) rfl
set_option maxRecDepth 30000 in
theorem fl_Mo_96 : Cond.fieldLink R_Mo 96 (cT 9 38).1 (cT 9 38).2.1 (cT 9 38).2.2.1 ∈ UW := UW_of (lw_at5 28 rfl) rfl
set_option maxRecDepth 30000 in
theorem fl_Mo_213 : Cond.fieldLink R_Mo 213 (cT 9 39).1 (cT 9 39).2.1 (cT 9 39).2.2.1 ∈ UW := UW_of (lw_at5 29 rfl) rfl
set_option maxRecDepth 30000 in
theorem fl_Mo_99 : Cond.fieldLink R_Mo 99 (cT 9 40).1 (cT 9 40).2.1 (cT 9 40).2.2.1 ∈ UW := UW_of (lw_at5 30 rfl) rfl
set_option maxRecDepth 30000 in
theorem fl_Mo_102 : Cond.fieldLink R_Mo 102 (cT 9 41).1 (cT 9 41).2.1 (cT 9 41).2.2.1 ∈ UW := UW_of (lw_at5 31 rfl) rfl
set_option maxRecDepth 30000 in
theorem fl_Mo_233 : Cond.fieldLink R_Mo 233 (cT 9 42).1 (cT 9 42).2.1 (cT 9 42).2.2.1 ∈ UW := UW_of (lw_at5 32 rfl) rfl
set_option maxRecDepth 30000 in
theorem fl_Mo_236 : Cond.fieldLink R_Mo 236 (cT 9 43).1 (cT 9 43).2.1 (cT 9 43).2.2.1 ∈ UW := UW_of (lw_at5 33 rfl) rfl
set_option maxRecDepth 30000 in
theorem fl_Mo_166 : Cond.fieldLink R_Mo 166 (cT 9 44).1 (cT 9 44).2.1 (cT 9 44).2.2.1 ∈ UW := UW_of (lw_at5 34 rfl) rfl
set_option maxRecDepth 30000 in
theorem fl_Mo_239 : Cond.fieldLink R_Mo 239 (cT 9 45).1 (cT 9 45).2.1 (cT 9 45).2.2.1 ∈ UW := UW_of (lw_at5 35 rfl) rfl
set_option maxRecDepth 30000 in
theorem fl_Mo_280 : Cond.fieldLink R_Mo 280 (cT 9 46).1 (cT 9 46).2.1 (cT 9 46).2.2.1 ∈ UW := UW_of (lw_at5 36 rfl) rfl
set_option maxRecDepth 30000 in
theorem fl_Mo_277 : Cond.fieldLink R_Mo 277 (cT 9 47).1 (cT 9 47).2.1 (cT 9 47).2.2.1 ∈ UW := UW_of (lw_at5 37 rfl) rfl
set_option maxRecDepth 30000 in
theorem cl_La_7 : Cond.classLink R_La 7 (cR 8) ∈ UW := UW_of (lw_at1 20 rfl) rfl
set_option maxRecDepth 30000 in
theorem cl_De_9 : Cond.classLink R_De 9 (cR 1) ∈ UW := UW_of (lw_at1 28 rfl) rfl
set_option maxRecDepth 30000 in
theorem cl_De_19 : Cond.classLink R_De 19 (cR 6) ∈ UW := UW_of (lw_at1 30 rfl) rfl
set_option maxRecDepth 30000 in
theorem cl_De_22 : Cond.classLink R_De 22 (cR 3) ∈ UW := UW_of (lw_at1 67 rfl) rfl
set_option maxRecDepth 30000 in
theorem cl_De_25 : Cond.classLink R_De 25 (cR 4) ∈ UW := UW_of (lw_at1 92 rfl) rfl
set_option maxRecDepth 30000 in
theorem cl_Re_9 : Cond.classLink R_Re 9 (cR 7) ∈ UW := UW_of (lw_at1 98 rfl) rfl
set_option maxRecDepth 30000 in
theorem cl_De_28 : Cond.classLink R_De 28 (cR 0) ∈ UW := UW_of (lw_at1 139 rfl) rfl
set_option maxRecDepth 30000 in
theorem cl_Ev_9 : Cond.classLink R_Ev 9 (cR 5) ∈ UW := UW_of (lw_at1 157 rfl) rfl
set_option maxRecDepth 30000 in
theorem cl_La_10 : Cond.classLink R_La 10 (cR 9) ∈ UW := UW_of (lw_at4 224 rfl) rfl
set_option maxRecDepth 30000 in
theorem ins_De : Cond.instantiable (cR 8) (cN 8) ∈ UW := UW_of (lw_at1 21 rfl) rfl
set_option maxRecDepth 30000 in
theorem ini_De : Cond.initialized (cR 8) ∈ UW := UW_of (lw_at1 1 rfl) rfl
set_option maxRecDepth 30000 in
theorem ins_Ta : Cond.instantiable (cR 6) (cN 6) ∈ UW := UW_of (lw_at1 31 rfl) rfl
set_option maxRecDepth 30000 in
theorem ini_Ta : Cond.initialized (cR 6) ∈ UW := UW_of (lw_at1 2 rfl) rfl
set_option maxRecDepth 30000 in
theorem ins_Li : Cond.instantiable (cR 3) (cN 3) ∈ UW := UW_of (lw_at1 68 rfl) rfl
set_option maxRecDepth 30000 in
theorem ini_Li : Cond.initialized (cR 3) ∈ UW := UW_of (lw_at1 4 rfl) rfl
set_option maxRecDepth 30000 in
theorem ins_Re : Cond.instantiable (cR 4) (cN 4) ∈ UW := UW_of (lw_at1 93 rfl) rfl
set_option maxRecDepth 30000 in
theorem ini_Re : Cond.initialized (cR 4) ∈ UW := UW_of (lw_at1 5 rfl) rfl
set_option maxRecDepth 30000 in
theorem ins_To : Cond.instantiable (cR 7) (cN 7) ∈ UW := UW_of (lw_at1 99 rfl) rfl
set_option maxRecDepth 30000 in
theorem ini_To : Cond.initialized (cR 7) ∈ UW := UW_of (lw_at1 6 rfl) rfl
set_option maxRecDepth 30000 in
theorem ins_Ck : Cond.instantiable (cR 0) (cN 0) ∈ UW := UW_of (lw_at1 140 rfl) rfl
set_option maxRecDepth 30000 in
theorem ini_Ck : Cond.initialized (cR 0) ∈ UW := UW_of (lw_at1 7 rfl) rfl
set_option maxRecDepth 30000 in
theorem ins_Ev : Cond.instantiable (cR 1) (cN 1) ∈ UW := UW_of (lw_at1 152 rfl) rfl
set_option maxRecDepth 30000 in
theorem ini_Ev : Cond.initialized (cR 1) ∈ UW := UW_of (lw_at1 8 rfl) rfl
set_option maxRecDepth 30000 in
theorem ins_St : Cond.instantiable (cR 5) (cN 5) ∈ UW := UW_of (lw_at1 158 rfl) rfl
set_option maxRecDepth 30000 in
theorem ini_St : Cond.initialized (cR 5) ∈ UW := UW_of (lw_at1 9 rfl) rfl
set_option maxRecDepth 30000 in
theorem ins_Mo : Cond.instantiable (cR 9) (cN 9) ∈ UW := UW_of (lw_at4 225 rfl) rfl
set_option maxRecDepth 30000 in
theorem ini_Mo : Cond.initialized (cR 9) ∈ UW := UW_of (lw_at1 10 rfl) rfl
set_option maxRecDepth 30000 in
theorem k2_To_86 : Cond.constantLong R_To 86 (Int64.ofInt (2)) ∈ UW := UW_of (lw_at3 13 rfl) rfl
set_option maxRecDepth 30000 in
theorem k2_To_90 : Cond.constantLong R_To 90 (Int64.ofInt (3)) ∈ UW := UW_of (lw_at3 15 rfl) rfl
set_option maxRecDepth 30000 in
theorem k2_To_108 : Cond.constantLong R_To 108 (Int64.ofInt (10)) ∈ UW := UW_of (lw_at3 33 rfl) rfl
set_option maxRecDepth 30000 in
theorem k2_To_110 : Cond.constantLong R_To 110 (Int64.ofInt (2147483648)) ∈ UW := UW_of (lw_at3 34 rfl) rfl
set_option maxRecDepth 30000 in
theorem k2_Re_112 : Cond.constantLong R_Re 112 (Int64.ofInt (2147483648)) ∈ UW := UW_of (lw_at3 170 rfl) rfl
set_option maxRecDepth 30000 in
theorem k2_Ev_194 : Cond.constantLong R_Ev 194 (Int64.ofInt (63)) ∈ UW := UW_of (lw_at4 124 rfl) rfl
set_option maxRecDepth 30000 in
theorem k2_Ev_196 : Cond.constantLong R_Ev 196 (Int64.ofInt (31)) ∈ UW := UW_of (lw_at4 125 rfl) rfl
set_option maxRecDepth 30000 in
theorem k2_Ev_198 : Cond.constantLong R_Ev 198 (Int64.ofInt (-1)) ∈ UW := UW_of (lw_at4 129 rfl) rfl
set_option maxRecDepth 30000 in
theorem k2_Mo_136 : Cond.constantLong R_Mo 136 (Int64.ofInt (65535)) ∈ UW := UW_of (lw_at5 171 rfl) rfl
set_option maxRecDepth 30000 in
theorem k2_Mo_195 : Cond.constantLong R_Mo 195 (Int64.ofInt (2112)) ∈ UW := UW_of (lw_at5 239 rfl) rfl
set_option maxRecDepth 30000 in
theorem k2_Mo_197 : Cond.constantLong R_Mo 197 (Int64.ofInt (46)) ∈ UW := UW_of (lw_at6 0 rfl) rfl
set_option maxRecDepth 30000 in
theorem k2_Mo_199 : Cond.constantLong R_Mo 199 (Int64.ofInt (40)) ∈ UW := UW_of (lw_at6 1 rfl) rfl
set_option maxRecDepth 30000 in
theorem k2_Mo_201 : Cond.constantLong R_Mo 201 (Int64.ofInt (10)) ∈ UW := UW_of (lw_at6 9 rfl) rfl
set_option maxRecDepth 30000 in
theorem k2_Mo_203 : Cond.constantLong R_Mo 203 (Int64.ofInt (48)) ∈ UW := UW_of (lw_at6 10 rfl) rfl
set_option maxRecDepth 30000 in
theorem k2_Mo_205 : Cond.constantLong R_Mo 205 (Int64.ofInt (2147483648)) ∈ UW := UW_of (lw_at6 11 rfl) rfl
set_option maxRecDepth 30000 in
theorem k2_Mo_296 : Cond.constantLong R_Mo 296 (Int64.ofInt (-1)) ∈ UW := UW_of (lw_at6 105 rfl) rfl
set_option maxRecDepth 30000 in
theorem k2_La_33 : Cond.constantLong R_La 33 (Int64.ofInt (4294967295)) ∈ UW := UW_of (lw_at6 161 rfl) rfl
set_option maxRecDepth 30000 in
theorem k1_Ji_265 : Cond.constant R_Ji 265 (Int32.ofInt 1431655765) ∈ UW := UW_of (lw_at4 221 rfl) rfl
set_option maxRecDepth 30000 in
theorem k1_Ji_266 : Cond.constant R_Ji 266 (Int32.ofInt 858993459) ∈ UW := UW_of (lw_at4 222 rfl) rfl
set_option maxRecDepth 30000 in
theorem k1_Ji_267 : Cond.constant R_Ji 267 (Int32.ofInt 252645135) ∈ UW := UW_of (lw_at4 223 rfl) rfl
set_option maxRecDepth 30000 in
theorem ac_char : Cond.arrayClass .char ∈ UW := UW_of (lw_at1 64 rfl) rfl
set_option maxRecDepth 30000 in
theorem ac_int : Cond.arrayClass .int ∈ UW := UW_of (lw_at1 65 rfl) rfl
set_option maxRecDepth 30000 in
theorem ac_long : Cond.arrayClass .long ∈ UW := UW_of (lw_at1 66 rfl) rfl
set_option maxRecDepth 30000 in
theorem ac_byte : Cond.arrayClass .byte ∈ UW := UW_of (lw_at4 136 rfl) rfl
set_option maxRecDepth 30000 in
theorem ac_boolean : Cond.arrayClass .boolean ∈ UW := UW_of (lw_at5 135 rfl) rfl
set_option maxRecDepth 30000 in
theorem oi_inst : Cond.instanceMethod objectInit ∈ UW := UW_of (lw_at1 26 rfl) rfl
set_option maxRecDepth 30000 in
theorem oi_code : Cond.code objectInit ⟨#[0xb1]⟩ 1 none ∈ UW := UW_of (lw_at1 27 rfl) rfl
