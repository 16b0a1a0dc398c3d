/-! ===== link words ===== -/
theorem zw0 : (zy 0).cls = "HummingSet$Answers" := rfl
theorem zw1 : (zy 1).cls = "HummingSet$Answers" := rfl
theorem zw2 : (zy 2).cls = "HummingSet$Answers" := rfl
theorem zw3 : (zy 3).cls = "HummingSet$Bench" := rfl
theorem zw4 : (zy 4).cls = "HummingSet$Bench" := rfl
theorem zw5 : (zy 5).cls = "HummingSet$Bench" := rfl
theorem zw6 : (zy 6).cls = "HummingSet$Bench" := rfl
theorem zw7 : (zy 7).cls = "HummingSet$Bench" := rfl
theorem zw8 : (zy 8).cls = "HummingSet$Bench" := rfl
theorem zw9 : (zy 9).cls = "HummingSet$Bench" := rfl
theorem zw10 : (zy 10).cls = "HummingSet$Bench" := rfl
theorem zw11 : (zy 11).cls = "HummingSet$Cases" := rfl
theorem zw12 : (zy 12).cls = "HummingSet$Cases" := rfl
theorem zw13 : (zy 13).cls = "HummingSet$Cases" := rfl
theorem zw14 : (zy 14).cls = "HummingSet$Cases" := rfl
theorem zw15 : (zy 15).cls = "HummingSet$Cases" := rfl
theorem zw16 : (zy 16).cls = "HummingSet$Cases" := rfl
theorem zw17 : (zy 17).cls = "HummingSet$Part" := rfl
theorem zw18 : (zy 18).cls = "HummingSet$Part" := rfl
theorem zw19 : (zy 19).cls = "HummingSet$Part" := rfl
theorem zw20 : (zy 20).cls = "HummingSet$Part" := rfl
theorem zw21 : (zy 21).cls = "HummingSet$Plan" := rfl
theorem zw22 : (zy 22).cls = "HummingSet$Plan" := rfl
theorem zw23 : (zy 23).cls = "HummingSet$Plan" := rfl
theorem zw24 : (zy 24).cls = "HummingSet$Plan" := rfl
theorem zw25 : (zy 25).cls = "HummingSet$Plan" := rfl
theorem zw26 : (zy 26).cls = "HummingSet$Plan" := rfl
theorem zw27 : (zy 27).cls = "HummingSet$Reader" := rfl
theorem zw28 : (zy 28).cls = "HummingSet$Reader" := rfl
theorem zw29 : (zy 29).cls = "HummingSet$Reader" := rfl
theorem zw30 : (zy 30).cls = "HummingSet$Reader" := rfl
theorem zw31 : (zy 31).cls = "HummingSet$Reader" := rfl
theorem zw32 : (zy 32).cls = "HummingSet$Reader" := rfl
theorem zw33 : (zy 33).cls = "HummingSet$Search" := rfl
theorem zw34 : (zy 34).cls = "HummingSet$Search" := rfl
theorem zw35 : (zy 35).cls = "HummingSet$Search" := rfl
theorem zw36 : (zy 36).cls = "HummingSet$Search" := rfl
theorem zw37 : (zy 37).cls = "HummingSet$Search" := rfl
theorem zw38 : (zy 38).cls = "HummingSet$Stage" := rfl
theorem zw39 : (zy 39).cls = "HummingSet$Text" := rfl
theorem zw40 : (zy 40).cls = "HummingSet$Text" := rfl
theorem zw41 : (zy 41).cls = "HummingSet$Text" := rfl
theorem zw42 : (zy 42).cls = "HummingSet$Text" := rfl
theorem zw43 : (zy 43).cls = "HummingSet$Way" := rfl
theorem zw44 : (zy 44).cls = "HummingSet$Wireless" := rfl
theorem zw45 : (zy 45).cls = "HummingSet$Wireless" := rfl
theorem zw46 : (zy 46).cls = "HummingSet$Wireless" := rfl
theorem zw47 : (zy 47).cls = "HummingSet$Wireless" := rfl
theorem zw48 : (zy 48).cls = "HummingSet$Wireless" := rfl
theorem zw49 : (zy 49).cls = "HummingSet$Wireless" := rfl
theorem zw50 : (zy 50).cls = "HummingSet$Wireless" := rfl
theorem zw51 : (zy 51).cls = "HummingSet$Wireless" := rfl
theorem zw52 : (zy 52).cls = "HummingSet$Wireless" := rfl
theorem zw53 : (zy 53).cls = "HummingSet$Wireless" := rfl
theorem zw54 : (zy 54).cls = "HummingSet$Wireless" := rfl
theorem zw55 : (zy 55).cls = "HummingSet$Wireless" := rfl
theorem zw56 : (zy 56).cls = "HummingSet$Wireless" := rfl
theorem zw57 : (zy 57).cls = "HummingSet$Wireless" := rfl
theorem zw58 : (zy 58).cls = "HummingSet$Wireless" := rfl
theorem zw59 : (zy 59).cls = "HummingSet$Wireless" := rfl
theorem zw60 : (zy 60).cls = "HummingSet$Wireless" := rfl
theorem zw61 : (zy 61).cls = "HummingSet$Wireless" := rfl
theorem zw62 : (zy 62).cls = "HummingSet$Wireless" := rfl
theorem zw63 : (zy 63).cls = "HummingSet$Wireless" := rfl
theorem zw64 : (zy 64).cls = "HummingSet$Wireless" := rfl
theorem zw65 : (zy 65).cls = "HummingSet$Wireless" := rfl
theorem zw66 : (zy 66).cls = "HummingSet$Wireless" := rfl
theorem zw67 : (zy 67).cls = "HummingSet$Wireless" := rfl
theorem zw68 : (zy 68).cls = "HummingSet$Wireless" := rfl
theorem zw69 : (zy 69).cls = "HummingSet" := rfl
theorem zw70 : (zy 70).cls = "HummingSet" := rfl
theorem zw71 : (zy 71).cls = "HummingSet" := rfl
theorem zw72 : (zy 72).cls = "HummingSet" := rfl
theorem zw73 : (zy 73).cls = "HummingSet" := rfl
theorem zw74 : (zy 74).cls = "HummingSet" := rfl
theorem zw75 : (zy 75).cls = "HummingSet" := rfl
theorem zw76 : (zy 76).cls = "HummingSet" := rfl
theorem zw77 : (zy 77).cls = "HummingSet" := rfl
theorem zw78 : (zy 78).cls = "HummingSet" := rfl
theorem zw79 : (zy 79).cls = "HummingSet" := rfl
theorem zw80 : (zy 80).cls = "HummingSet" := rfl
theorem zw81 : (zy 81).cls = "HummingSet" := rfl
theorem zw82 : (zy 82).cls = "HummingSet" := rfl
theorem zw83 : (zy 83).cls = "HummingSet" := rfl
theorem zw84 : (zy 84).cls = "HummingSet" := rfl
theorem zw85 : (zy 85).cls = "HummingSet" := rfl
theorem zw86 : (zy 86).cls = "HummingSet" := rfl
theorem zw87 : (zy 87).cls = "HummingSet" := rfl
theorem zw88 : (zy 88).cls = "HummingSet" := rfl
theorem zw89 : (zy 89).cls = "HummingSet" := rfl
theorem zw90 : (zy 90).cls = "HummingSet" := rfl
theorem zw91 : (zy 91).cls = "HummingSet" := rfl
theorem zw92 : (zy 92).cls = "HummingSet" := rfl
theorem zw93 : (zy 93).cls = "HummingSet" := rfl
theorem zw94 : (zy 94).cls = "HummingSet" := rfl
theorem zw95 : (zy 95).cls = "HummingSet" := rfl
theorem zw96 : (zy 96).cls = "HummingSet" := rfl
theorem zw97 : (zy 97).cls = "HummingSet" := rfl
theorem zw98 : (zy 98).cls = "HummingSet" := rfl
theorem zw99 : (zy 99).cls = "HummingSet" := rfl
theorem zw100 : (zy 100).cls = "HummingSet" := rfl
theorem zw101 : (zy 101).cls = "HummingSet" := rfl
theorem zw102 : (zy 102).cls = "HummingSet" := rfl
theorem zw103 : (zy 103).cls = "HummingSet" := rfl
theorem zw104 : (zy 104).cls = "HummingSetModel" := rfl
theorem zw105 : (zy 105).cls = "HummingSetModel" := rfl
theorem zw106 : (zy 106).cls = "HummingSetModel" := rfl
theorem zw107 : (zy 107).cls = "HummingSetModel" := rfl
theorem zw108 : (zy 108).cls = "HummingSetModel" := rfl
theorem zw109 : (zy 109).cls = "HummingSetModel" := rfl
theorem zw110 : (zy 110).cls = "HummingSetModel" := rfl
theorem zw111 : (zy 111).cls = "HummingSetModel" := rfl
theorem zw112 : (zy 112).cls = "HummingSetModel" := rfl
theorem zw113 : (zy 113).cls = "HummingSetModel" := rfl
theorem zw114 : (zy 114).cls = "HummingSetModel" := rfl
theorem zw115 : (zy 115).cls = "HummingSetModel" := rfl
theorem zw116 : (zy 116).cls = "HummingSetModel" := rfl
theorem zw117 : (zy 117).cls = "HummingSetModel" := rfl
theorem zw118 : (zy 118).cls = "HummingSetModel" := rfl
theorem zw119 : (zy 119).cls = "HummingSetModel" := rfl
theorem zw120 : (zy 120).cls = "HummingSetModel" := rfl
theorem zw121 : (zy 121).cls = "HummingSetModel" := rfl
theorem zw122 : (zy 122).cls = "HummingSetModel" := rfl
theorem zw123 : (zy 123).cls = "HummingSetModel" := rfl
theorem zw124 : (zy 124).cls = "HummingSetModel" := rfl
theorem zw125 : (zy 125).cls = "HummingSetModel" := rfl
theorem zw126 : (zy 126).cls = "HummingSetModel" := rfl
theorem zw127 : (zy 127).cls = "HummingSetModel" := rfl
theorem zw128 : (zy 128).cls = "HummingSetModel" := rfl
theorem zw129 : (zy 129).cls = "HummingSetModel" := rfl
theorem zw130 : (zy 130).cls = "HummingSetModel" := rfl
theorem zw131 : (zy 131).cls = "HummingSetModel" := rfl
theorem zw132 : (zy 132).cls = "HummingSetModel" := rfl
theorem zw133 : (zy 133).cls = "HummingSetModel" := rfl
theorem zw134 : (zy 134).cls = "HummingSetModel" := rfl
theorem zw135 : (zy 135).cls = "HummingSetModel" := rfl
theorem zw136 : (zy 136).cls = "HummingSetModel" := rfl
theorem zw137 : (zy 137).cls = "HummingSetModel" := rfl
theorem zw138 : (zy 138).cls = "HummingSetModel" := rfl
theorem zw139 : (zy 139).cls = "HummingSetModel" := rfl
theorem zw140 : (zy 140).cls = "HummingSetModel" := rfl
theorem zw141 : (zy 141).cls = "HummingSetModel" := rfl
theorem zw142 : (zy 142).cls = "HummingSetModel" := rfl
theorem zw143 : (zy 143).cls = "HummingSetModel" := rfl
theorem zw144 : (zy 144).cls = "HummingSetModel" := rfl
theorem zw145 : (zy 145).cls = "HummingSetModel" := rfl
theorem zw146 : (zy 146).cls = "HummingSetModel" := rfl
theorem zw147 : (zy 147).cls = "HummingSetModel" := rfl
theorem zw148 : (zy 148).cls = "HummingSetModel" := rfl
theorem zw149 : (zy 149).cls = "HummingSetModel" := rfl
theorem zw150 : (zy 150).cls = "HummingSetModel" := rfl
theorem zw151 : (zy 151).cls = "HummingSetModel" := rfl
theorem zw152 : (zy 152).cls = "HummingSetModel" := rfl
theorem zw153 : (zy 153).cls = "HummingSetModel" := rfl
theorem zw154 : (zy 154).cls = "HummingSetModel" := rfl
theorem zw155 : (zy 155).cls = "HummingSetModel" := rfl
theorem zw156 : (zy 156).cls = "HummingSetModel" := rfl
theorem zw157 : (zy 157).cls = "HummingSetModel" := rfl
theorem zw158 : (zy 158).cls = "HummingSetModel" := rfl
theorem zw159 : (zy 159).cls = "HummingSetModel" := rfl
theorem zw160 : (zy 160).cls = "HummingSetModel" := rfl
theorem zw161 : (zy 161).cls = "HummingSetModel" := rfl
theorem zw162 : (zy 162).cls = "HummingSetModel" := rfl
theorem zw163 : (zy 163).cls = "HummingSetModel" := rfl
theorem zw164 : (zy 164).cls = "HummingSetModel" := rfl
theorem zw165 : (zy 165).cls = "HummingSetModel" := rfl
theorem zw166 : (zy 166).cls = "HummingSetModel" := rfl
theorem zw167 : (zy 167).cls = "HummingSetModel" := rfl
theorem zw168 : (zy 168).cls = "HummingSetModel" := rfl
theorem zw169 : (zy 169).cls = "HummingSetModel" := rfl
theorem zw170 : (zy 170).cls = "HummingSetModel" := rfl
theorem zw171 : (zy 171).cls = "HummingSetModel" := rfl
theorem zw172 : (zy 172).cls = "HummingSetModel" := rfl
theorem zw173 : (zy 173).cls = "HummingSetModel" := rfl
theorem zw174 : (zy 174).cls = "HummingSetModel" := rfl
theorem zw175 : (zy 175).cls = "java/lang/Integer" := rfl
theorem zw176 : (zy 176).cls = "HummingSetLaw" := rfl
set_option maxRecDepth 100000 in
theorem zfk_HummingSet_Answers_24 : zfm "HummingSet$Answers" 24 "HummingSet$Answers" "count" "I" := Or.inl (zmW 85 (by decide +kernel) rfl)
set_option maxRecDepth 100000 in
theorem zfk_HummingSet_Answers_9 : zfm "HummingSet$Answers" 9 "HummingSet$Answers" "kinds" "[I" := Or.inl (zmW 77 (by decide +kernel) rfl)
set_option maxRecDepth 100000 in
theorem zfk_HummingSet_Answers_15 : zfm "HummingSet$Answers" 15 "HummingSet$Answers" "ofs" "[I" := Or.inl (zmW 79 (by decide +kernel) rfl)
set_option maxRecDepth 100000 in
theorem zfk_HummingSet_Answers_18 : zfm "HummingSet$Answers" 18 "HummingSet$Answers" "minutes" "[I" := Or.inl (zmW 81 (by decide +kernel) rfl)
set_option maxRecDepth 100000 in
theorem zfk_HummingSet_Answers_21 : zfm "HummingSet$Answers" 21 "HummingSet$Answers" "replies" "[I" := Or.inl (zmW 83 (by decide +kernel) rfl)
set_option maxRecDepth 100000 in
theorem zca1 : zcal 1 4 := ⟨by decide +kernel, zcw1, by decide +kernel, by decide +kernel, zmW (w := Cond.initialized "HummingSet$Answers") 5 (by decide +kernel) rfl⟩
set_option maxRecDepth 100000 in
theorem zin1 : Cond.instanceMethod (zy 1) ∈ zWS := zmW (w := Cond.instanceMethod zy1) 610 (by decide +kernel) rfl
set_option maxRecDepth 100000 in
theorem zse1 : Cond.selects zC0 (zy 1) (zy 1) ∈ zWS := zmS (w := Cond.selects zC0 zy1 zy1) 40 (by decide +kernel) rfl
set_option maxRecDepth 100000 in
theorem zmk_HummingSet_Answers_28 : zmm "HummingSet$Answers" 28 zy1 := Or.inl (zmW 752 (by decide +kernel) rfl)
set_option maxRecDepth 100000 in
theorem zca5 : zcal 5 3 := ⟨by decide +kernel, zcw5, by decide +kernel, by decide +kernel, zmW (w := Cond.initialized "HummingSet$Bench") 4 (by decide +kernel) rfl⟩
set_option maxRecDepth 100000 in
theorem zin5 : Cond.instanceMethod (zy 5) ∈ zWS := zmW (w := Cond.instanceMethod zy5) 356 (by decide +kernel) rfl
set_option maxRecDepth 100000 in
theorem zse5 : Cond.selects zC1 (zy 5) (zy 5) ∈ zWS := zmS (w := Cond.selects zC1 zy5 zy5) 9 (by decide +kernel) rfl
set_option maxRecDepth 100000 in
theorem zmk_HummingSet_Bench_20 : zmm "HummingSet$Bench" 20 zy5 := Or.inl (zmW 354 (by decide +kernel) rfl)
set_option maxRecDepth 100000 in
theorem zca46 : zcal 46 1 := ⟨by decide +kernel, zcw46, by decide +kernel, by decide +kernel, zmW (w := Cond.initialized "HummingSet$Wireless") 9 (by decide +kernel) rfl⟩
set_option maxRecDepth 100000 in
theorem zin46 : Cond.instanceMethod (zy 46) ∈ zWS := zmW (w := Cond.instanceMethod zy46) 322 (by decide +kernel) rfl
set_option maxRecDepth 100000 in
theorem zse46 : Cond.selects zC10 (zy 46) (zy 46) ∈ zWS := zmS (w := Cond.selects zC10 zy46 zy46) 3 (by decide +kernel) rfl
set_option maxRecDepth 100000 in
theorem zmk_HummingSet_Bench_24 : zmm "HummingSet$Bench" 24 zy46 := Or.inr ⟨"HummingSet", zmN 358 (by decide +kernel) rfl⟩
set_option maxRecDepth 100000 in
theorem zfk_HummingSet_Bench_11 : zfm "HummingSet$Bench" 11 "HummingSet$Bench" "ins" "[[I" := Or.inl (zmW 62 (by decide +kernel) rfl)
set_option maxRecDepth 100000 in
theorem zfk_HummingSet_Bench_30 : zfm "HummingSet$Bench" 30 "HummingSet$Wireless" "stageCount" "I" := Or.inr ⟨"HummingSet", zmN 279 (by decide +kernel) rfl⟩
set_option maxRecDepth 100000 in
theorem zfk_HummingSet_Bench_34 : zfm "HummingSet$Bench" 34 "HummingSet$Wireless" "stages" "[LHummingSet$Stage;" := Or.inr ⟨"HummingSet", zmN 269 (by decide +kernel) rfl⟩
set_option maxRecDepth 100000 in
theorem zfk_HummingSet_Bench_38 : zfm "HummingSet$Bench" 38 "HummingSet$Stage" "gain" "I" := Or.inr ⟨"HummingSet", zmN 192 (by decide +kernel) rfl⟩
set_option maxRecDepth 100000 in
theorem zfk_HummingSet_Bench_16 : zfm "HummingSet$Bench" 16 "HummingSet$Bench" "ends" "[I" := Or.inl (zmW 64 (by decide +kernel) rfl)
set_option maxRecDepth 100000 in
theorem zfk_HummingSet_Bench_43 : zfm "HummingSet$Bench" 43 "HummingSet$Stage" "mains" "[I" := Or.inr ⟨"HummingSet", zmN 190 (by decide +kernel) rfl⟩
set_option maxRecDepth 100000 in
theorem zfk_HummingSet_Bench_46 : zfm "HummingSet$Bench" 46 "HummingSet$Wireless" "partCount" "I" := Or.inr ⟨"HummingSet", zmN 282 (by decide +kernel) rfl⟩
set_option maxRecDepth 100000 in
theorem zfk_HummingSet_Bench_49 : zfm "HummingSet$Bench" 49 "HummingSet$Wireless" "parts" "[LHummingSet$Part;" := Or.inr ⟨"HummingSet", zmN 271 (by decide +kernel) rfl⟩
set_option maxRecDepth 100000 in
theorem zfk_HummingSet_Bench_53 : zfm "HummingSet$Bench" 53 "HummingSet$Part" "warm" "I" := Or.inr ⟨"HummingSet", zmN 220 (by decide +kernel) rfl⟩
set_option maxRecDepth 100000 in
theorem zfk_HummingSet_Bench_58 : zfm "HummingSet$Bench" 58 "HummingSet$Part" "stage" "I" := Or.inr ⟨"HummingSet", zmN 210 (by decide +kernel) rfl⟩
set_option maxRecDepth 100000 in
theorem zfk_HummingSet_Bench_61 : zfm "HummingSet$Bench" 61 "HummingSet$Part" "lets" "[I" := Or.inr ⟨"HummingSet", zmN 208 (by decide +kernel) rfl⟩
set_option maxRecDepth 100000 in
theorem zmaS_mabs : Cond.static Lib.Math.abs.name ∈ zWS := zmW 364 (by decide +kernel) rfl
set_option maxRecDepth 100000 in
theorem zmaC_mabs : Cond.code Lib.Math.abs.name Lib.Math.abs.code 1 (some .int) ∈ zWS := zmW 365 (by decide +kernel) rfl
set_option maxRecDepth 100000 in
theorem zmaI : Cond.initialized "java/lang/Math" ∈ zWS := zmW 14 (by decide +kernel) rfl
set_option maxRecDepth 100000 in
theorem zmaL_mabs_HummingSet_Bench_64 : Cond.methodLink "HummingSet$Bench" 64 Lib.Math.abs.name ∈ zWS := zmW 363 (by decide +kernel) rfl
set_option maxRecDepth 100000 in
theorem zfk_HummingSet_Bench_70 : zfm "HummingSet$Bench" 70 "HummingSet$Wireless" "ears" "[I" := Or.inr ⟨"HummingSet", zmN 276 (by decide +kernel) rfl⟩
set_option maxRecDepth 100000 in
theorem zca8 : zcal 8 1 := ⟨by decide +kernel, zcw8, by decide +kernel, by decide +kernel, zmW (w := Cond.initialized "HummingSet$Bench") 4 (by decide +kernel) rfl⟩
set_option maxRecDepth 100000 in
theorem zst8 : Cond.static (zy 8) ∈ zWS := zmW (w := Cond.static zy8) 398 (by decide +kernel) rfl
set_option maxRecDepth 100000 in
theorem zmk_HummingSet_Bench_73 : zmm "HummingSet$Bench" 73 zy8 := Or.inl (zmW 397 (by decide +kernel) rfl)
set_option maxRecDepth 100000 in
theorem zca10 : zcal 10 3 := ⟨by decide +kernel, zcw10, by decide +kernel, by decide +kernel, zmW (w := Cond.initialized "HummingSet$Bench") 4 (by decide +kernel) rfl⟩
set_option maxRecDepth 100000 in
theorem zst10 : Cond.static (zy 10) ∈ zWS := zmW (w := Cond.static zy10) 393 (by decide +kernel) rfl
set_option maxRecDepth 100000 in
theorem zmk_HummingSet_Bench_77 : zmm "HummingSet$Bench" 77 zy10 := Or.inl (zmW 392 (by decide +kernel) rfl)
set_option maxRecDepth 100000 in
theorem zca4 : zcal 4 5 := ⟨by decide +kernel, zcw4, by decide +kernel, by decide +kernel, zmW (w := Cond.initialized "HummingSet$Bench") 4 (by decide +kernel) rfl⟩
set_option maxRecDepth 100000 in
theorem zin4 : Cond.instanceMethod (zy 4) ∈ zWS := zmW (w := Cond.instanceMethod zy4) 352 (by decide +kernel) rfl
set_option maxRecDepth 100000 in
theorem zse4 : Cond.selects zC1 (zy 4) (zy 4) ∈ zWS := zmS (w := Cond.selects zC1 zy4 zy4) 8 (by decide +kernel) rfl
set_option maxRecDepth 100000 in
theorem zmk_HummingSet_Bench_81 : zmm "HummingSet$Bench" 81 zy4 := Or.inl (zmW 396 (by decide +kernel) rfl)
set_option maxRecDepth 100000 in
theorem zmaS_mmin : Cond.static Lib.Math.min.name ∈ zWS := zmW 401 (by decide +kernel) rfl
set_option maxRecDepth 100000 in
theorem zmaC_mmin : Cond.code Lib.Math.min.name Lib.Math.min.code 2 (some .int) ∈ zWS := zmW 402 (by decide +kernel) rfl
set_option maxRecDepth 100000 in
theorem zmaL_mmin_HummingSet_Bench_85 : Cond.methodLink "HummingSet$Bench" 85 Lib.Math.min.name ∈ zWS := zmW 400 (by decide +kernel) rfl
set_option maxRecDepth 100000 in
theorem zca6 : zcal 6 1 := ⟨by decide +kernel, zcw6, by decide +kernel, by decide +kernel, zmW (w := Cond.initialized "HummingSet$Bench") 4 (by decide +kernel) rfl⟩
set_option maxRecDepth 100000 in
theorem zin6 : Cond.instanceMethod (zy 6) ∈ zWS := zmW (w := Cond.instanceMethod zy6) 361 (by decide +kernel) rfl
set_option maxRecDepth 100000 in
theorem zse6 : Cond.selects zC1 (zy 6) (zy 6) ∈ zWS := zmS (w := Cond.selects zC1 zy6 zy6) 10 (by decide +kernel) rfl
set_option maxRecDepth 100000 in
theorem zmk_HummingSet_Bench_89 : zmm "HummingSet$Bench" 89 zy6 := Or.inl (zmW 403 (by decide +kernel) rfl)
set_option maxRecDepth 100000 in
theorem zca47 : zcal 47 1 := ⟨by decide +kernel, zcw47, by decide +kernel, by decide +kernel, zmW (w := Cond.initialized "HummingSet$Wireless") 9 (by decide +kernel) rfl⟩
set_option maxRecDepth 100000 in
theorem zin47 : Cond.instanceMethod (zy 47) ∈ zWS := zmW (w := Cond.instanceMethod zy47) 330 (by decide +kernel) rfl
set_option maxRecDepth 100000 in
theorem zse47 : Cond.selects zC10 (zy 47) (zy 47) ∈ zWS := zmS (w := Cond.selects zC10 zy47 zy47) 5 (by decide +kernel) rfl
set_option maxRecDepth 100000 in
theorem zmk_HummingSet_Bench_93 : zmm "HummingSet$Bench" 93 zy47 := Or.inr ⟨"HummingSet", zmN 395 (by decide +kernel) rfl⟩
set_option maxRecDepth 100000 in
theorem zfk_HummingSet_Bench_96 : zfm "HummingSet$Bench" 96 "HummingSet$Part" "kind" "I" := Or.inr ⟨"HummingSet", zmN 214 (by decide +kernel) rfl⟩
set_option maxRecDepth 100000 in
theorem zfk_HummingSet_Cases_19 : zfm "HummingSet$Cases" 19 "HummingSet$Cases" "count" "I" := Or.inl (zmW 111 (by decide +kernel) rfl)
set_option maxRecDepth 100000 in
theorem zfk_HummingSet_Cases_23 : zfm "HummingSet$Cases" 23 "HummingSet$Cases" "total" "J" := Or.inl (zmW 115 (by decide +kernel) rfl)
set_option maxRecDepth 100000 in
theorem zca48 : zcal 48 1 := ⟨by decide +kernel, zcw48, by decide +kernel, by decide +kernel, zmW (w := Cond.initialized "HummingSet$Wireless") 9 (by decide +kernel) rfl⟩
set_option maxRecDepth 100000 in
theorem zin48 : Cond.instanceMethod (zy 48) ∈ zWS := zmW (w := Cond.instanceMethod zy48) 342 (by decide +kernel) rfl
set_option maxRecDepth 100000 in
theorem zse48 : Cond.selects zC10 (zy 48) (zy 48) ∈ zWS := zmS (w := Cond.selects zC10 zy48 zy48) 7 (by decide +kernel) rfl
set_option maxRecDepth 100000 in
theorem zmk_HummingSet_Cases_27 : zmm "HummingSet$Cases" 27 zy48 := Or.inr ⟨"HummingSet", zmN 374 (by decide +kernel) rfl⟩
set_option maxRecDepth 100000 in
theorem zca175 : zcal 175 1 := ⟨by decide +kernel, zcw175, by decide +kernel, by decide +kernel, zmW (w := Cond.initialized "java/lang/Integer") 13 (by decide +kernel) rfl⟩
set_option maxRecDepth 100000 in
theorem zst175 : Cond.static (zy 175) ∈ zWS := zmW (w := Cond.static zy175) 345 (by decide +kernel) rfl
set_option maxRecDepth 100000 in
theorem zmk_HummingSet_Cases_33 : zmm "HummingSet$Cases" 33 zy175 := Or.inl (zmW 375 (by decide +kernel) rfl)
set_option maxRecDepth 100000 in
theorem zca64 : zcal 64 1 := ⟨by decide +kernel, zcw64, by decide +kernel, by decide +kernel, zmW (w := Cond.initialized "HummingSet$Wireless") 9 (by decide +kernel) rfl⟩
set_option maxRecDepth 100000 in
theorem zin64 : Cond.instanceMethod (zy 64) ∈ zWS := zmW (w := Cond.instanceMethod zy64) 378 (by decide +kernel) rfl
set_option maxRecDepth 100000 in
theorem zse64 : Cond.selects zC10 (zy 64) (zy 64) ∈ zWS := zmS (w := Cond.selects zC10 zy64 zy64) 13 (by decide +kernel) rfl
set_option maxRecDepth 100000 in
theorem zmk_HummingSet_Cases_39 : zmm "HummingSet$Cases" 39 zy64 := Or.inr ⟨"HummingSet", zmN 376 (by decide +kernel) rfl⟩
set_option maxRecDepth 100000 in
theorem zca13 : zcal 13 2 := ⟨by decide +kernel, zcw13, by decide +kernel, by decide +kernel, zmW (w := Cond.initialized "HummingSet$Cases") 6 (by decide +kernel) rfl⟩
set_option maxRecDepth 100000 in
theorem zin13 : Cond.instanceMethod (zy 13) ∈ zWS := zmW (w := Cond.instanceMethod zy13) 382 (by decide +kernel) rfl
set_option maxRecDepth 100000 in
theorem zse13 : Cond.selects zC2 (zy 13) (zy 13) ∈ zWS := zmS (w := Cond.selects zC2 zy13 zy13) 14 (by decide +kernel) rfl
set_option maxRecDepth 100000 in
theorem zmk_HummingSet_Cases_43 : zmm "HummingSet$Cases" 43 zy13 := Or.inl (zmW 380 (by decide +kernel) rfl)
set_option maxRecDepth 100000 in
theorem zfk_HummingSet_Cases_9 : zfm "HummingSet$Cases" 9 "HummingSet$Cases" "states" "[I" := Or.inl (zmW 105 (by decide +kernel) rfl)
set_option maxRecDepth 100000 in
theorem zfk_HummingSet_Cases_15 : zfm "HummingSet$Cases" 15 "HummingSet$Cases" "weights" "[J" := Or.inl (zmW 108 (by decide +kernel) rfl)
set_option maxRecDepth 100000 in
theorem zfk_HummingSet_Cases_47 : zfm "HummingSet$Cases" 47 "HummingSet$Answers" "count" "I" := Or.inr ⟨"HummingSet", zmN 86 (by decide +kernel) rfl⟩
set_option maxRecDepth 100000 in
theorem zfk_HummingSet_Cases_50 : zfm "HummingSet$Cases" 50 "HummingSet$Answers" "kinds" "[I" := Or.inr ⟨"HummingSet", zmN 78 (by decide +kernel) rfl⟩
set_option maxRecDepth 100000 in
theorem zfk_HummingSet_Cases_53 : zfm "HummingSet$Cases" 53 "HummingSet$Answers" "ofs" "[I" := Or.inr ⟨"HummingSet", zmN 80 (by decide +kernel) rfl⟩
set_option maxRecDepth 100000 in
theorem zfk_HummingSet_Cases_56 : zfm "HummingSet$Cases" 56 "HummingSet$Answers" "minutes" "[I" := Or.inr ⟨"HummingSet", zmN 82 (by decide +kernel) rfl⟩
set_option maxRecDepth 100000 in
theorem zca9 : zcal 9 5 := ⟨by decide +kernel, zcw9, by decide +kernel, by decide +kernel, zmW (w := Cond.initialized "HummingSet$Bench") 4 (by decide +kernel) rfl⟩
set_option maxRecDepth 100000 in
theorem zin9 : Cond.instanceMethod (zy 9) ∈ zWS := zmW (w := Cond.instanceMethod zy9) 390 (by decide +kernel) rfl
set_option maxRecDepth 100000 in
theorem zse9 : Cond.selects zC1 (zy 9) (zy 9) ∈ zWS := zmS (w := Cond.selects zC1 zy9 zy9) 16 (by decide +kernel) rfl
set_option maxRecDepth 100000 in
theorem zmk_HummingSet_Cases_59 : zmm "HummingSet$Cases" 59 zy9 := Or.inr ⟨"HummingSet", zmN 388 (by decide +kernel) rfl⟩
set_option maxRecDepth 100000 in
theorem zfk_HummingSet_Cases_65 : zfm "HummingSet$Cases" 65 "HummingSet$Answers" "replies" "[I" := Or.inr ⟨"HummingSet", zmN 84 (by decide +kernel) rfl⟩
set_option maxRecDepth 100000 in
theorem zfk_HummingSet_Part_15 : zfm "HummingSet$Part" 15 "HummingSet$Part" "loss" "I" := Or.inl (zmW 228 (by decide +kernel) rfl)
set_option maxRecDepth 100000 in
theorem zmaS_mmax : Cond.static Lib.Math.max.name ∈ zWS := zmW 589 (by decide +kernel) rfl
set_option maxRecDepth 100000 in
theorem zmaC_mmax : Cond.code Lib.Math.max.name Lib.Math.max.code 2 (some .int) ∈ zWS := zmW 590 (by decide +kernel) rfl
set_option maxRecDepth 100000 in
theorem zmaL_mmax_HummingSet_Part_19 : Cond.methodLink "HummingSet$Part" 19 Lib.Math.max.name ∈ zWS := zmW 588 (by decide +kernel) rfl
set_option maxRecDepth 100000 in
theorem zfk_HummingSet_Part_25 : zfm "HummingSet$Part" 25 "HummingSet$Part" "volts" "I" := Or.inl (zmW 226 (by decide +kernel) rfl)
set_option maxRecDepth 100000 in
theorem zca18 : zcal 18 1 := ⟨by decide +kernel, zcw18, by decide +kernel, by decide +kernel, zmW (w := Cond.initialized "HummingSet$Part") 11 (by decide +kernel) rfl⟩
set_option maxRecDepth 100000 in
theorem zin18 : Cond.instanceMethod (zy 18) ∈ zWS := zmW (w := Cond.instanceMethod zy18) 586 (by decide +kernel) rfl
set_option maxRecDepth 100000 in
theorem zse18 : Cond.selects zC3 (zy 18) (zy 18) ∈ zWS := zmS (w := Cond.selects zC3 zy18 zy18) 37 (by decide +kernel) rfl
set_option maxRecDepth 100000 in
theorem zmk_HummingSet_Part_28 : zmm "HummingSet$Part" 28 zy18 := Or.inl (zmW 584 (by decide +kernel) rfl)
set_option maxRecDepth 100000 in
theorem zmk_HummingSet_Plan_19 : zmm "HummingSet$Plan" 19 zy48 := Or.inr ⟨"HummingSet", zmN 340 (by decide +kernel) rfl⟩
set_option maxRecDepth 100000 in
theorem zmk_HummingSet_Plan_25 : zmm "HummingSet$Plan" 25 zy175 := Or.inl (zmW 344 (by decide +kernel) rfl)
set_option maxRecDepth 100000 in
theorem zmk_HummingSet_Plan_31 : zmm "HummingSet$Plan" 31 zy4 := Or.inr ⟨"HummingSet", zmN 350 (by decide +kernel) rfl⟩
set_option maxRecDepth 100000 in
theorem zfk_HummingSet_Plan_9 : zfm "HummingSet$Plan" 9 "HummingSet$Plan" "quiet" "[Z" := Or.inl (zmW 159 (by decide +kernel) rfl)
set_option maxRecDepth 100000 in
theorem zmk_HummingSet_Plan_37 : zmm "HummingSet$Plan" 37 zy6 := Or.inr ⟨"HummingSet", zmN 359 (by decide +kernel) rfl⟩
set_option maxRecDepth 100000 in
theorem zfk_HummingSet_Plan_41 : zfm "HummingSet$Plan" 41 "HummingSet$Cases" "count" "I" := Or.inr ⟨"HummingSet", zmN 112 (by decide +kernel) rfl⟩
set_option maxRecDepth 100000 in
theorem zfk_HummingSet_Plan_47 : zfm "HummingSet$Plan" 47 "HummingSet$Cases" "states" "[I" := Or.inr ⟨"HummingSet", zmN 106 (by decide +kernel) rfl⟩
set_option maxRecDepth 100000 in
theorem zfk_HummingSet_Plan_51 : zfm "HummingSet$Plan" 51 "HummingSet$Cases" "weights" "[J" := Or.inr ⟨"HummingSet", zmN 109 (by decide +kernel) rfl⟩
set_option maxRecDepth 100000 in
theorem zca65 : zcal 65 1 := ⟨by decide +kernel, zcw65, by decide +kernel, by decide +kernel, zmW (w := Cond.initialized "HummingSet$Wireless") 9 (by decide +kernel) rfl⟩
set_option maxRecDepth 100000 in
theorem zin65 : Cond.instanceMethod (zy 65) ∈ zWS := zmW (w := Cond.instanceMethod zy65) 679 (by decide +kernel) rfl
set_option maxRecDepth 100000 in
theorem zse65 : Cond.selects zC10 (zy 65) (zy 65) ∈ zWS := zmS (w := Cond.selects zC10 zy65 zy65) 47 (by decide +kernel) rfl
set_option maxRecDepth 100000 in
theorem zmk_HummingSet_Plan_54 : zmm "HummingSet$Plan" 54 zy65 := Or.inr ⟨"HummingSet", zmN 677 (by decide +kernel) rfl⟩
set_option maxRecDepth 100000 in
theorem zfk_HummingSet_Plan_59 : zfm "HummingSet$Plan" 59 "HummingSet$Cases" "total" "J" := Or.inr ⟨"HummingSet", zmN 116 (by decide +kernel) rfl⟩
set_option maxRecDepth 100000 in
theorem zca23 : zcal 23 2 := ⟨by decide +kernel, zcw23, by decide +kernel, by decide +kernel, zmW (w := Cond.initialized "HummingSet$Plan") 8 (by decide +kernel) rfl⟩
set_option maxRecDepth 100000 in
theorem zin23 : Cond.instanceMethod (zy 23) ∈ zWS := zmW (w := Cond.instanceMethod zy23) 684 (by decide +kernel) rfl
set_option maxRecDepth 100000 in
theorem zse23 : Cond.selects zC4 (zy 23) (zy 23) ∈ zWS := zmS (w := Cond.selects zC4 zy23 zy23) 48 (by decide +kernel) rfl
set_option maxRecDepth 100000 in
theorem zmk_HummingSet_Plan_63 : zmm "HummingSet$Plan" 63 zy23 := Or.inl (zmW 682 (by decide +kernel) rfl)
set_option maxRecDepth 100000 in
theorem zfk_HummingSet_Plan_67 : zfm "HummingSet$Plan" 67 "HummingSet$Wireless" "partCount" "I" := Or.inr ⟨"HummingSet", zmN 283 (by decide +kernel) rfl⟩
set_option maxRecDepth 100000 in
theorem zmaL_mmin_HummingSet_Plan_70 : Cond.methodLink "HummingSet$Plan" 70 Lib.Math.min.name ∈ zWS := zmW 695 (by decide +kernel) rfl
set_option maxRecDepth 100000 in
theorem zfk_HummingSet_Plan_15 : zfm "HummingSet$Plan" 15 "HummingSet$Plan" "sums" "[J" := Or.inl (zmW 160 (by decide +kernel) rfl)
set_option maxRecDepth 100000 in
theorem zfk_HummingSet_Plan_76 : zfm "HummingSet$Plan" 76 "HummingSet$Plan" "firstPart" "I" := Or.inl (zmW 162 (by decide +kernel) rfl)
set_option maxRecDepth 100000 in
theorem zca26 : zcal 26 3 := ⟨by decide +kernel, zcw26, by decide +kernel, by decide +kernel, zmW (w := Cond.initialized "HummingSet$Plan") 8 (by decide +kernel) rfl⟩
set_option maxRecDepth 100000 in
theorem zin26 : Cond.instanceMethod (zy 26) ∈ zWS := zmW (w := Cond.instanceMethod zy26) 698 (by decide +kernel) rfl
set_option maxRecDepth 100000 in
theorem zse26 : Cond.selects zC4 (zy 26) (zy 26) ∈ zWS := zmS (w := Cond.selects zC4 zy26 zy26) 50 (by decide +kernel) rfl
set_option maxRecDepth 100000 in
theorem zmk_HummingSet_Plan_79 : zmm "HummingSet$Plan" 79 zy26 := Or.inl (zmW 696 (by decide +kernel) rfl)
set_option maxRecDepth 100000 in
theorem zfk_HummingSet_Plan_83 : zfm "HummingSet$Plan" 83 "HummingSet$Wireless" "parts" "[LHummingSet$Part;" := Or.inr ⟨"HummingSet", zmN 273 (by decide +kernel) rfl⟩
set_option maxRecDepth 100000 in
theorem zfk_HummingSet_Plan_87 : zfm "HummingSet$Plan" 87 "HummingSet$Part" "cost" "I" := Or.inr ⟨"HummingSet", zmN 223 (by decide +kernel) rfl⟩
set_option maxRecDepth 100000 in
theorem zca45 : zcal 45 0 := ⟨by decide +kernel, zcw45, by decide +kernel, by decide +kernel, zmW (w := Cond.initialized "HummingSet$Wireless") 9 (by decide +kernel) rfl⟩
set_option maxRecDepth 100000 in
theorem zin45 : Cond.instanceMethod (zy 45) ∈ zWS := zmW (w := Cond.instanceMethod zy45) 266 (by decide +kernel) rfl
set_option maxRecDepth 100000 in
theorem zse45 : Cond.selects zC10 (zy 45) (zy 45) ∈ zWS := zmS (w := Cond.selects zC10 zy45 zy45) 0 (by decide +kernel) rfl
set_option maxRecDepth 100000 in
theorem zmk_HummingSet_Reader_15 : zmm "HummingSet$Reader" 15 zy45 := Or.inr ⟨"HummingSet", zmN 465 (by decide +kernel) rfl⟩
set_option maxRecDepth 100000 in
theorem zfk_HummingSet_Reader_20 : zfm "HummingSet$Reader" 20 "HummingSet$Reader" "place" "I" := Or.inl (zmW 47 (by decide +kernel) rfl)
set_option maxRecDepth 100000 in
theorem zfk_HummingSet_Reader_24 : zfm "HummingSet$Reader" 24 "HummingSet$Text" "length" "I" := Or.inr ⟨"HummingSet", zmN 32 (by decide +kernel) rfl⟩
set_option maxRecDepth 100000 in
theorem zca29 : zcal 29 2 := ⟨by decide +kernel, zcw29, by decide +kernel, by decide +kernel, zmW (w := Cond.initialized "HummingSet$Reader") 3 (by decide +kernel) rfl⟩
set_option maxRecDepth 100000 in
theorem zin29 : Cond.instanceMethod (zy 29) ∈ zWS := zmW (w := Cond.instanceMethod zy29) 468 (by decide +kernel) rfl
set_option maxRecDepth 100000 in
theorem zse29 : Cond.selects zC5 (zy 29) (zy 29) ∈ zWS := zmS (w := Cond.selects zC5 zy29 zy29) 20 (by decide +kernel) rfl
set_option maxRecDepth 100000 in
theorem zmk_HummingSet_Reader_29 : zmm "HummingSet$Reader" 29 zy29 := Or.inl (zmW 466 (by decide +kernel) rfl)
set_option maxRecDepth 100000 in
theorem zca42 : zcal 42 1 := ⟨by decide +kernel, zcw42, by decide +kernel, by decide +kernel, zmW (w := Cond.initialized "HummingSet$Text") 2 (by decide +kernel) rfl⟩
set_option maxRecDepth 100000 in
theorem zin42 : Cond.instanceMethod (zy 42) ∈ zWS := zmW (w := Cond.instanceMethod zy42) 472 (by decide +kernel) rfl
set_option maxRecDepth 100000 in
theorem zse42 : Cond.selects zC8 (zy 42) (zy 42) ∈ zWS := zmS (w := Cond.selects zC8 zy42 zy42) 21 (by decide +kernel) rfl
set_option maxRecDepth 100000 in
theorem zmk_HummingSet_Reader_33 : zmm "HummingSet$Reader" 33 zy42 := Or.inr ⟨"HummingSet", zmN 470 (by decide +kernel) rfl⟩
set_option maxRecDepth 100000 in
theorem zca30 : zcal 30 1 := ⟨by decide +kernel, zcw30, by decide +kernel, by decide +kernel, zmW (w := Cond.initialized "HummingSet$Reader") 3 (by decide +kernel) rfl⟩
set_option maxRecDepth 100000 in
theorem zst30 : Cond.static (zy 30) ∈ zWS := zmW (w := Cond.static zy30) 475 (by decide +kernel) rfl
set_option maxRecDepth 100000 in
theorem zmk_HummingSet_Reader_37 : zmm "HummingSet$Reader" 37 zy30 := Or.inl (zmW 474 (by decide +kernel) rfl)
set_option maxRecDepth 100000 in
theorem zca31 : zcal 31 2 := ⟨by decide +kernel, zcw31, by decide +kernel, by decide +kernel, zmW (w := Cond.initialized "HummingSet$Reader") 3 (by decide +kernel) rfl⟩
set_option maxRecDepth 100000 in
theorem zin31 : Cond.instanceMethod (zy 31) ∈ zWS := zmW (w := Cond.instanceMethod zy31) 479 (by decide +kernel) rfl
set_option maxRecDepth 100000 in
theorem zse31 : Cond.selects zC5 (zy 31) (zy 31) ∈ zWS := zmS (w := Cond.selects zC5 zy31 zy31) 22 (by decide +kernel) rfl
set_option maxRecDepth 100000 in
theorem zmk_HummingSet_Reader_40 : zmm "HummingSet$Reader" 40 zy31 := Or.inl (zmW 477 (by decide +kernel) rfl)
set_option maxRecDepth 100000 in
theorem zca32 : zcal 32 2 := ⟨by decide +kernel, zcw32, by decide +kernel, by decide +kernel, zmW (w := Cond.initialized "HummingSet$Reader") 3 (by decide +kernel) rfl⟩
set_option maxRecDepth 100000 in
theorem zin32 : Cond.instanceMethod (zy 32) ∈ zWS := zmW (w := Cond.instanceMethod zy32) 484 (by decide +kernel) rfl
set_option maxRecDepth 100000 in
theorem zse32 : Cond.selects zC5 (zy 32) (zy 32) ∈ zWS := zmS (w := Cond.selects zC5 zy32 zy32) 23 (by decide +kernel) rfl
set_option maxRecDepth 100000 in
theorem zmk_HummingSet_Reader_44 : zmm "HummingSet$Reader" 44 zy32 := Or.inl (zmW 482 (by decide +kernel) rfl)
set_option maxRecDepth 100000 in
theorem zca100 : zcal 100 3 := ⟨by decide +kernel, zcw100, by decide +kernel, by decide +kernel, zmW (w := Cond.initialized "HummingSet") 1 (by decide +kernel) rfl⟩
set_option maxRecDepth 100000 in
theorem zst100 : Cond.static (zy 100) ∈ zWS := zmW (w := Cond.static zy100) 314 (by decide +kernel) rfl
set_option maxRecDepth 100000 in
theorem zmk_HummingSet_Reader_48 : zmm "HummingSet$Reader" 48 zy100 := Or.inr ⟨"HummingSet", zmN 481 (by decide +kernel) rfl⟩
set_option maxRecDepth 100000 in
theorem zfk_HummingSet_Reader_9 : zfm "HummingSet$Reader" 9 "HummingSet$Reader" "numbers" "[I" := Or.inl (zmW 46 (by decide +kernel) rfl)
set_option maxRecDepth 100000 in
theorem zca51 : zcal 51 2 := ⟨by decide +kernel, zcw51, by decide +kernel, by decide +kernel, zmW (w := Cond.initialized "HummingSet$Wireless") 9 (by decide +kernel) rfl⟩
set_option maxRecDepth 100000 in
theorem zin51 : Cond.instanceMethod (zy 51) ∈ zWS := zmW (w := Cond.instanceMethod zy51) 311 (by decide +kernel) rfl
set_option maxRecDepth 100000 in
theorem zse51 : Cond.selects zC10 (zy 51) (zy 51) ∈ zWS := zmS (w := Cond.selects zC10 zy51 zy51) 1 (by decide +kernel) rfl
set_option maxRecDepth 100000 in
theorem zmk_HummingSet_Reader_52 : zmm "HummingSet$Reader" 52 zy51 := Or.inr ⟨"HummingSet", zmN 486 (by decide +kernel) rfl⟩
set_option maxRecDepth 100000 in
theorem zca52 : zcal 52 5 := ⟨by decide +kernel, zcw52, by decide +kernel, by decide +kernel, zmW (w := Cond.initialized "HummingSet$Wireless") 9 (by decide +kernel) rfl⟩
set_option maxRecDepth 100000 in
theorem zin52 : Cond.instanceMethod (zy 52) ∈ zWS := zmW (w := Cond.instanceMethod zy52) 318 (by decide +kernel) rfl
set_option maxRecDepth 100000 in
theorem zse52 : Cond.selects zC10 (zy 52) (zy 52) ∈ zWS := zmS (w := Cond.selects zC10 zy52 zy52) 2 (by decide +kernel) rfl
set_option maxRecDepth 100000 in
theorem zmk_HummingSet_Reader_56 : zmm "HummingSet$Reader" 56 zy52 := Or.inr ⟨"HummingSet", zmN 487 (by decide +kernel) rfl⟩
set_option maxRecDepth 100000 in
theorem zca53 : zcal 53 3 := ⟨by decide +kernel, zcw53, by decide +kernel, by decide +kernel, zmW (w := Cond.initialized "HummingSet$Wireless") 9 (by decide +kernel) rfl⟩
set_option maxRecDepth 100000 in
theorem zin53 : Cond.instanceMethod (zy 53) ∈ zWS := zmW (w := Cond.instanceMethod zy53) 326 (by decide +kernel) rfl
set_option maxRecDepth 100000 in
theorem zse53 : Cond.selects zC10 (zy 53) (zy 53) ∈ zWS := zmS (w := Cond.selects zC10 zy53 zy53) 4 (by decide +kernel) rfl
set_option maxRecDepth 100000 in
theorem zmk_HummingSet_Reader_60 : zmm "HummingSet$Reader" 60 zy53 := Or.inr ⟨"HummingSet", zmN 488 (by decide +kernel) rfl⟩
set_option maxRecDepth 100000 in
theorem zca54 : zcal 54 3 := ⟨by decide +kernel, zcw54, by decide +kernel, by decide +kernel, zmW (w := Cond.initialized "HummingSet$Wireless") 9 (by decide +kernel) rfl⟩
set_option maxRecDepth 100000 in
theorem zin54 : Cond.instanceMethod (zy 54) ∈ zWS := zmW (w := Cond.instanceMethod zy54) 491 (by decide +kernel) rfl
set_option maxRecDepth 100000 in
theorem zse54 : Cond.selects zC10 (zy 54) (zy 54) ∈ zWS := zmS (w := Cond.selects zC10 zy54 zy54) 24 (by decide +kernel) rfl
set_option maxRecDepth 100000 in
theorem zmk_HummingSet_Reader_63 : zmm "HummingSet$Reader" 63 zy54 := Or.inr ⟨"HummingSet", zmN 489 (by decide +kernel) rfl⟩
set_option maxRecDepth 100000 in
theorem zca55 : zcal 55 2 := ⟨by decide +kernel, zcw55, by decide +kernel, by decide +kernel, zmW (w := Cond.initialized "HummingSet$Wireless") 9 (by decide +kernel) rfl⟩
set_option maxRecDepth 100000 in
theorem zin55 : Cond.instanceMethod (zy 55) ∈ zWS := zmW (w := Cond.instanceMethod zy55) 495 (by decide +kernel) rfl
set_option maxRecDepth 100000 in
theorem zse55 : Cond.selects zC10 (zy 55) (zy 55) ∈ zWS := zmS (w := Cond.selects zC10 zy55 zy55) 25 (by decide +kernel) rfl
set_option maxRecDepth 100000 in
theorem zmk_HummingSet_Reader_66 : zmm "HummingSet$Reader" 66 zy55 := Or.inr ⟨"HummingSet", zmN 493 (by decide +kernel) rfl⟩
set_option maxRecDepth 100000 in
theorem zca56 : zcal 56 3 := ⟨by decide +kernel, zcw56, by decide +kernel, by decide +kernel, zmW (w := Cond.initialized "HummingSet$Wireless") 9 (by decide +kernel) rfl⟩
set_option maxRecDepth 100000 in
theorem zin56 : Cond.instanceMethod (zy 56) ∈ zWS := zmW (w := Cond.instanceMethod zy56) 499 (by decide +kernel) rfl
set_option maxRecDepth 100000 in
theorem zse56 : Cond.selects zC10 (zy 56) (zy 56) ∈ zWS := zmS (w := Cond.selects zC10 zy56 zy56) 26 (by decide +kernel) rfl
set_option maxRecDepth 100000 in
theorem zmk_HummingSet_Reader_69 : zmm "HummingSet$Reader" 69 zy56 := Or.inr ⟨"HummingSet", zmN 497 (by decide +kernel) rfl⟩
set_option maxRecDepth 100000 in
theorem zca57 : zcal 57 2 := ⟨by decide +kernel, zcw57, by decide +kernel, by decide +kernel, zmW (w := Cond.initialized "HummingSet$Wireless") 9 (by decide +kernel) rfl⟩
set_option maxRecDepth 100000 in
theorem zin57 : Cond.instanceMethod (zy 57) ∈ zWS := zmW (w := Cond.instanceMethod zy57) 503 (by decide +kernel) rfl
set_option maxRecDepth 100000 in
theorem zse57 : Cond.selects zC10 (zy 57) (zy 57) ∈ zWS := zmS (w := Cond.selects zC10 zy57 zy57) 27 (by decide +kernel) rfl
set_option maxRecDepth 100000 in
theorem zmk_HummingSet_Reader_72 : zmm "HummingSet$Reader" 72 zy57 := Or.inr ⟨"HummingSet", zmN 501 (by decide +kernel) rfl⟩
set_option maxRecDepth 100000 in
theorem zca58 : zcal 58 2 := ⟨by decide +kernel, zcw58, by decide +kernel, by decide +kernel, zmW (w := Cond.initialized "HummingSet$Wireless") 9 (by decide +kernel) rfl⟩
set_option maxRecDepth 100000 in
theorem zin58 : Cond.instanceMethod (zy 58) ∈ zWS := zmW (w := Cond.instanceMethod zy58) 507 (by decide +kernel) rfl
set_option maxRecDepth 100000 in
theorem zse58 : Cond.selects zC10 (zy 58) (zy 58) ∈ zWS := zmS (w := Cond.selects zC10 zy58 zy58) 28 (by decide +kernel) rfl
set_option maxRecDepth 100000 in
theorem zmk_HummingSet_Reader_75 : zmm "HummingSet$Reader" 75 zy58 := Or.inr ⟨"HummingSet", zmN 505 (by decide +kernel) rfl⟩
set_option maxRecDepth 100000 in
theorem zca59 : zcal 59 3 := ⟨by decide +kernel, zcw59, by decide +kernel, by decide +kernel, zmW (w := Cond.initialized "HummingSet$Wireless") 9 (by decide +kernel) rfl⟩
set_option maxRecDepth 100000 in
theorem zin59 : Cond.instanceMethod (zy 59) ∈ zWS := zmW (w := Cond.instanceMethod zy59) 511 (by decide +kernel) rfl
set_option maxRecDepth 100000 in
theorem zse59 : Cond.selects zC10 (zy 59) (zy 59) ∈ zWS := zmS (w := Cond.selects zC10 zy59 zy59) 29 (by decide +kernel) rfl
set_option maxRecDepth 100000 in
theorem zmk_HummingSet_Reader_78 : zmm "HummingSet$Reader" 78 zy59 := Or.inr ⟨"HummingSet", zmN 509 (by decide +kernel) rfl⟩
set_option maxRecDepth 100000 in
theorem zfk_HummingSet_Search_15 : zfm "HummingSet$Search" 15 "HummingSet$Search" "kind" "I" := Or.inl (zmW 135 (by decide +kernel) rfl)
set_option maxRecDepth 100000 in
theorem zca50 : zcal 50 1 := ⟨by decide +kernel, zcw50, by decide +kernel, by decide +kernel, zmW (w := Cond.initialized "HummingSet$Wireless") 9 (by decide +kernel) rfl⟩
set_option maxRecDepth 100000 in
theorem zin50 : Cond.instanceMethod (zy 50) ∈ zWS := zmW (w := Cond.instanceMethod zy50) 557 (by decide +kernel) rfl
set_option maxRecDepth 100000 in
theorem zse50 : Cond.selects zC10 (zy 50) (zy 50) ∈ zWS := zmS (w := Cond.selects zC10 zy50 zy50) 32 (by decide +kernel) rfl
set_option maxRecDepth 100000 in
theorem zmk_HummingSet_Search_19 : zmm "HummingSet$Search" 19 zy50 := Or.inr ⟨"HummingSet", zmN 649 (by decide +kernel) rfl⟩
set_option maxRecDepth 100000 in
theorem zca37 : zcal 37 6 := ⟨by decide +kernel, zcw37, by decide +kernel, by decide +kernel, zmW (w := Cond.initialized "HummingSet$Search") 7 (by decide +kernel) rfl⟩
set_option maxRecDepth 100000 in
theorem zin37 : Cond.instanceMethod (zy 37) ∈ zWS := zmW (w := Cond.instanceMethod zy37) 652 (by decide +kernel) rfl
set_option maxRecDepth 100000 in
theorem zse37 : Cond.selects zC6 (zy 37) (zy 37) ∈ zWS := zmS (w := Cond.selects zC6 zy37 zy37) 44 (by decide +kernel) rfl
set_option maxRecDepth 100000 in
theorem zmk_HummingSet_Search_25 : zmm "HummingSet$Search" 25 zy37 := Or.inl (zmW 650 (by decide +kernel) rfl)
set_option maxRecDepth 100000 in
theorem zca60 : zcal 60 2 := ⟨by decide +kernel, zcw60, by decide +kernel, by decide +kernel, zmW (w := Cond.initialized "HummingSet$Wireless") 9 (by decide +kernel) rfl⟩
set_option maxRecDepth 100000 in
theorem zin60 : Cond.instanceMethod (zy 60) ∈ zWS := zmW (w := Cond.instanceMethod zy60) 566 (by decide +kernel) rfl
set_option maxRecDepth 100000 in
theorem zse60 : Cond.selects zC10 (zy 60) (zy 60) ∈ zWS := zmS (w := Cond.selects zC10 zy60 zy60) 33 (by decide +kernel) rfl
set_option maxRecDepth 100000 in
theorem zmk_HummingSet_Search_29 : zmm "HummingSet$Search" 29 zy60 := Or.inr ⟨"HummingSet", zmN 659 (by decide +kernel) rfl⟩
set_option maxRecDepth 100000 in
theorem zca35 : zcal 35 3 := ⟨by decide +kernel, zcw35, by decide +kernel, by decide +kernel, zmW (w := Cond.initialized "HummingSet$Search") 7 (by decide +kernel) rfl⟩
set_option maxRecDepth 100000 in
theorem zin35 : Cond.instanceMethod (zy 35) ∈ zWS := zmW (w := Cond.instanceMethod zy35) 662 (by decide +kernel) rfl
set_option maxRecDepth 100000 in
theorem zse35 : Cond.selects zC6 (zy 35) (zy 35) ∈ zWS := zmS (w := Cond.selects zC6 zy35 zy35) 45 (by decide +kernel) rfl
set_option maxRecDepth 100000 in
theorem zmk_HummingSet_Search_33 : zmm "HummingSet$Search" 33 zy35 := Or.inl (zmW 660 (by decide +kernel) rfl)
set_option maxRecDepth 100000 in
theorem zfk_HummingSet_Search_37 : zfm "HummingSet$Search" 37 "HummingSet$Search" "of" "I" := Or.inl (zmW 137 (by decide +kernel) rfl)
set_option maxRecDepth 100000 in
theorem zfk_HummingSet_Search_40 : zfm "HummingSet$Search" 40 "HummingSet$Search" "weight" "J" := Or.inl (zmW 139 (by decide +kernel) rfl)
set_option maxRecDepth 100000 in
theorem zfk_HummingSet_Search_44 : zfm "HummingSet$Search" 44 "HummingSet$Search" "danger" "I" := Or.inl (zmW 141 (by decide +kernel) rfl)
set_option maxRecDepth 100000 in
theorem zca36 : zcal 36 1 := ⟨by decide +kernel, zcw36, by decide +kernel, by decide +kernel, zmW (w := Cond.initialized "HummingSet$Search") 7 (by decide +kernel) rfl⟩
set_option maxRecDepth 100000 in
theorem zst36 : Cond.static (zy 36) ∈ zWS := zmW (w := Cond.static zy36) 665 (by decide +kernel) rfl
set_option maxRecDepth 100000 in
theorem zmk_HummingSet_Search_47 : zmm "HummingSet$Search" 47 zy36 := Or.inl (zmW 664 (by decide +kernel) rfl)
set_option maxRecDepth 100000 in
theorem zfk_HummingSet_Search_50 : zfm "HummingSet$Search" 50 "HummingSet" "MINUTES" "[I" := Or.inr ⟨"HummingSet", zmN 667 (by decide +kernel) rfl⟩
set_option maxRecDepth 100000 in
theorem zfk_HummingSet_Search_9 : zfm "HummingSet$Search" 9 "HummingSet$Search" "byReply" "[J" := Or.inl (zmW 134 (by decide +kernel) rfl)
set_option maxRecDepth 100000 in
theorem zfk_HummingSet_Search_54 : zfm "HummingSet$Search" 54 "HummingSet$Cases" "count" "I" := Or.inr ⟨"HummingSet", zmN 113 (by decide +kernel) rfl⟩
set_option maxRecDepth 100000 in
theorem zfk_HummingSet_Search_59 : zfm "HummingSet$Search" 59 "HummingSet$Cases" "states" "[I" := Or.inr ⟨"HummingSet", zmN 107 (by decide +kernel) rfl⟩
set_option maxRecDepth 100000 in
theorem zmk_HummingSet_Search_62 : zmm "HummingSet$Search" 62 zy9 := Or.inr ⟨"HummingSet", zmN 654 (by decide +kernel) rfl⟩
set_option maxRecDepth 100000 in
theorem zmk_HummingSet_Search_68 : zmm "HummingSet$Search" 68 zy100 := Or.inr ⟨"HummingSet", zmN 655 (by decide +kernel) rfl⟩
set_option maxRecDepth 100000 in
theorem zfk_HummingSet_Search_72 : zfm "HummingSet$Search" 72 "HummingSet$Cases" "weights" "[J" := Or.inr ⟨"HummingSet", zmN 110 (by decide +kernel) rfl⟩
set_option maxRecDepth 100000 in
theorem zmaS_mmaxl : Cond.static Lib.MathLoose.max_long.x ∈ zWS := zmW 657 (by decide +kernel) rfl
set_option maxRecDepth 100000 in
theorem zmaC_mmaxl : Cond.code Lib.MathLoose.max_long.x Lib.MathLoose.max_long.code 4 (some .long) ∈ zWS := zmW 658 (by decide +kernel) rfl
set_option maxRecDepth 100000 in
theorem zmaL_mmaxl_HummingSet_Search_75 : Cond.methodLink "HummingSet$Search" 75 Lib.MathLoose.max_long.x ∈ zWS := zmW 656 (by decide +kernel) rfl
set_option maxRecDepth 100000 in
theorem zfk_HummingSet_Text_15 : zfm "HummingSet$Text" 15 "HummingSet$Text" "length" "I" := Or.inl (zmW 31 (by decide +kernel) rfl)
set_option maxRecDepth 100000 in
theorem zfk_HummingSet_Text_9 : zfm "HummingSet$Text" 9 "HummingSet$Text" "bytes" "[B" := Or.inl (zmW 30 (by decide +kernel) rfl)
set_option maxRecDepth 100000 in
theorem zfk_HummingSet_Wireless_42 : zfm "HummingSet$Wireless" 42 "HummingSet$Wireless" "stageCount" "I" := Or.inl (zmW 278 (by decide +kernel) rfl)
set_option maxRecDepth 100000 in
theorem zfk_HummingSet_Wireless_46 : zfm "HummingSet$Wireless" 46 "HummingSet$Wireless" "partCount" "I" := Or.inl (zmW 281 (by decide +kernel) rfl)
set_option maxRecDepth 100000 in
theorem zfk_HummingSet_Wireless_49 : zfm "HummingSet$Wireless" 49 "HummingSet$Wireless" "wayCount" "I" := Or.inl (zmW 285 (by decide +kernel) rfl)
set_option maxRecDepth 100000 in
theorem zfk_HummingSet_Wireless_52 : zfm "HummingSet$Wireless" 52 "HummingSet$Wireless" "letCount" "I" := Or.inl (zmW 286 (by decide +kernel) rfl)
set_option maxRecDepth 100000 in
theorem zfk_HummingSet_Wireless_55 : zfm "HummingSet$Wireless" 55 "HummingSet$Wireless" "mainsCount" "I" := Or.inl (zmW 287 (by decide +kernel) rfl)
set_option maxRecDepth 100000 in
theorem zfk_HummingSet_Wireless_29 : zfm "HummingSet$Wireless" 29 "HummingSet$Wireless" "ears" "[I" := Or.inl (zmW 275 (by decide +kernel) rfl)
set_option maxRecDepth 100000 in
theorem zfk_HummingSet_Wireless_33 : zfm "HummingSet$Wireless" 33 "HummingSet$Wireless" "yearly" "[I" := Or.inl (zmW 277 (by decide +kernel) rfl)
set_option maxRecDepth 100000 in
theorem zmk_HummingSet_Wireless_58 : zmm "HummingSet$Wireless" 58 zy100 := Or.inr ⟨"HummingSet", zmN 313 (by decide +kernel) rfl⟩
set_option maxRecDepth 100000 in
theorem zmk_HummingSet_Wireless_62 : zmm "HummingSet$Wireless" 62 zy50 := Or.inl (zmW 555 (by decide +kernel) rfl)
set_option maxRecDepth 100000 in
theorem zfk_HummingSet_Wireless_11 : zfm "HummingSet$Wireless" 11 "HummingSet$Wireless" "stages" "[LHummingSet$Stage;" := Or.inl (zmW 268 (by decide +kernel) rfl)
set_option maxRecDepth 100000 in
theorem zfk_HummingSet_Wireless_66 : zfm "HummingSet$Wireless" 66 "HummingSet$Stage" "gain" "I" := Or.inr ⟨"HummingSet", zmN 193 (by decide +kernel) rfl⟩
set_option maxRecDepth 100000 in
theorem zfk_HummingSet_Wireless_69 : zfm "HummingSet$Wireless" 69 "HummingSet$Stage" "bears" "I" := Or.inr ⟨"HummingSet", zmN 194 (by decide +kernel) rfl⟩
set_option maxRecDepth 100000 in
theorem zfk_HummingSet_Wireless_72 : zfm "HummingSet$Wireless" 72 "HummingSet$Stage" "mains" "[I" := Or.inr ⟨"HummingSet", zmN 191 (by decide +kernel) rfl⟩
set_option maxRecDepth 100000 in
theorem zmk_HummingSet_Wireless_75 : zmm "HummingSet$Wireless" 75 zy46 := Or.inl (zmW 320 (by decide +kernel) rfl)
set_option maxRecDepth 100000 in
theorem zfk_HummingSet_Wireless_19 : zfm "HummingSet$Wireless" 19 "HummingSet$Wireless" "parts" "[LHummingSet$Part;" := Or.inl (zmW 270 (by decide +kernel) rfl)
set_option maxRecDepth 100000 in
theorem zfk_HummingSet_Wireless_79 : zfm "HummingSet$Wireless" 79 "HummingSet$Part" "stage" "I" := Or.inr ⟨"HummingSet", zmN 212 (by decide +kernel) rfl⟩
set_option maxRecDepth 100000 in
theorem zfk_HummingSet_Wireless_82 : zfm "HummingSet$Wireless" 82 "HummingSet$Part" "kind" "I" := Or.inr ⟨"HummingSet", zmN 215 (by decide +kernel) rfl⟩
set_option maxRecDepth 100000 in
theorem zfk_HummingSet_Wireless_85 : zfm "HummingSet$Wireless" 85 "HummingSet$Part" "age" "I" := Or.inr ⟨"HummingSet", zmN 217 (by decide +kernel) rfl⟩
set_option maxRecDepth 100000 in
theorem zfk_HummingSet_Wireless_88 : zfm "HummingSet$Wireless" 88 "HummingSet$Part" "trouble" "I" := Or.inr ⟨"HummingSet", zmN 219 (by decide +kernel) rfl⟩
set_option maxRecDepth 100000 in
theorem zfk_HummingSet_Wireless_91 : zfm "HummingSet$Wireless" 91 "HummingSet$Part" "warm" "I" := Or.inr ⟨"HummingSet", zmN 222 (by decide +kernel) rfl⟩
set_option maxRecDepth 100000 in
theorem zfk_HummingSet_Wireless_94 : zfm "HummingSet$Wireless" 94 "HummingSet$Part" "cost" "I" := Or.inr ⟨"HummingSet", zmN 225 (by decide +kernel) rfl⟩
set_option maxRecDepth 100000 in
theorem zfk_HummingSet_Wireless_97 : zfm "HummingSet$Wireless" 97 "HummingSet$Part" "volts" "I" := Or.inr ⟨"HummingSet", zmN 227 (by decide +kernel) rfl⟩
set_option maxRecDepth 100000 in
theorem zfk_HummingSet_Wireless_100 : zfm "HummingSet$Wireless" 100 "HummingSet$Part" "loss" "I" := Or.inr ⟨"HummingSet", zmN 229 (by decide +kernel) rfl⟩
set_option maxRecDepth 100000 in
theorem zfk_HummingSet_Wireless_103 : zfm "HummingSet$Wireless" 103 "HummingSet$Part" "lets" "[I" := Or.inr ⟨"HummingSet", zmN 209 (by decide +kernel) rfl⟩
set_option maxRecDepth 100000 in
theorem zmk_HummingSet_Wireless_106 : zmm "HummingSet$Wireless" 106 zy47 := Or.inl (zmW 328 (by decide +kernel) rfl)
set_option maxRecDepth 100000 in
theorem zca101 : zcal 101 1 := ⟨by decide +kernel, zcw101, by decide +kernel, by decide +kernel, zmW (w := Cond.initialized "HummingSet") 1 (by decide +kernel) rfl⟩
set_option maxRecDepth 100000 in
theorem zst101 : Cond.static (zy 101) ∈ zWS := zmW (w := Cond.static zy101) 333 (by decide +kernel) rfl
set_option maxRecDepth 100000 in
theorem zmk_HummingSet_Wireless_109 : zmm "HummingSet$Wireless" 109 zy101 := Or.inr ⟨"HummingSet", zmN 332 (by decide +kernel) rfl⟩
set_option maxRecDepth 100000 in
theorem zfk_HummingSet_Wireless_25 : zfm "HummingSet$Wireless" 25 "HummingSet$Wireless" "ways" "[LHummingSet$Way;" := Or.inl (zmW 274 (by decide +kernel) rfl)
set_option maxRecDepth 100000 in
theorem zfk_HummingSet_Wireless_112 : zfm "HummingSet$Wireless" 112 "HummingSet$Way" "stage" "I" := Or.inr ⟨"HummingSet", zmN 254 (by decide +kernel) rfl⟩
set_option maxRecDepth 100000 in
theorem zfk_HummingSet_Wireless_113 : zfm "HummingSet$Wireless" 113 "HummingSet$Way" "tone" "I" := Or.inr ⟨"HummingSet", zmN 255 (by decide +kernel) rfl⟩
set_option maxRecDepth 100000 in
theorem zfk_HummingSet_Wireless_116 : zfm "HummingSet$Wireless" 116 "HummingSet$Way" "hundredths" "I" := Or.inr ⟨"HummingSet", zmN 256 (by decide +kernel) rfl⟩
set_option maxRecDepth 100000 in
theorem zca61 : zcal 61 1 := ⟨by decide +kernel, zcw61, by decide +kernel, by decide +kernel, zmW (w := Cond.initialized "HummingSet$Wireless") 9 (by decide +kernel) rfl⟩
set_option maxRecDepth 100000 in
theorem zin61 : Cond.instanceMethod (zy 61) ∈ zWS := zmW (w := Cond.instanceMethod zy61) 570 (by decide +kernel) rfl
set_option maxRecDepth 100000 in
theorem zse61 : Cond.selects zC10 (zy 61) (zy 61) ∈ zWS := zmS (w := Cond.selects zC10 zy61 zy61) 34 (by decide +kernel) rfl
set_option maxRecDepth 100000 in
theorem zmk_HummingSet_Wireless_119 : zmm "HummingSet$Wireless" 119 zy61 := Or.inl (zmW 568 (by decide +kernel) rfl)
set_option maxRecDepth 100000 in
theorem zca62 : zcal 62 1 := ⟨by decide +kernel, zcw62, by decide +kernel, by decide +kernel, zmW (w := Cond.initialized "HummingSet$Wireless") 9 (by decide +kernel) rfl⟩
set_option maxRecDepth 100000 in
theorem zin62 : Cond.instanceMethod (zy 62) ∈ zWS := zmW (w := Cond.instanceMethod zy62) 574 (by decide +kernel) rfl
set_option maxRecDepth 100000 in
theorem zse62 : Cond.selects zC10 (zy 62) (zy 62) ∈ zWS := zmS (w := Cond.selects zC10 zy62 zy62) 35 (by decide +kernel) rfl
set_option maxRecDepth 100000 in
theorem zmk_HummingSet_Wireless_122 : zmm "HummingSet$Wireless" 122 zy62 := Or.inl (zmW 572 (by decide +kernel) rfl)
set_option maxRecDepth 100000 in
theorem zca20 : zcal 20 0 := ⟨by decide +kernel, zcw20, by decide +kernel, by decide +kernel, zmW (w := Cond.initialized "HummingSet$Part") 11 (by decide +kernel) rfl⟩
set_option maxRecDepth 100000 in
theorem zin20 : Cond.instanceMethod (zy 20) ∈ zWS := zmW (w := Cond.instanceMethod zy20) 601 (by decide +kernel) rfl
set_option maxRecDepth 100000 in
theorem zse20 : Cond.selects zC3 (zy 20) (zy 20) ∈ zWS := zmS (w := Cond.selects zC3 zy20 zy20) 39 (by decide +kernel) rfl
set_option maxRecDepth 100000 in
theorem zmk_HummingSet_Wireless_125 : zmm "HummingSet$Wireless" 125 zy20 := Or.inr ⟨"HummingSet", zmN 599 (by decide +kernel) rfl⟩
set_option maxRecDepth 100000 in
theorem zmaL_mmax_HummingSet_Wireless_129 : Cond.methodLink "HummingSet$Wireless" 129 Lib.Math.max.name ∈ zWS := zmW 603 (by decide +kernel) rfl
set_option maxRecDepth 100000 in
theorem zca67 : zcal 67 1 := ⟨by decide +kernel, zcw67, by decide +kernel, by decide +kernel, zmW (w := Cond.initialized "HummingSet$Wireless") 9 (by decide +kernel) rfl⟩
set_option maxRecDepth 100000 in
theorem zin67 : Cond.instanceMethod (zy 67) ∈ zWS := zmW (w := Cond.instanceMethod zy67) 718 (by decide +kernel) rfl
set_option maxRecDepth 100000 in
theorem zse67 : Cond.selects zC10 (zy 67) (zy 67) ∈ zWS := zmS (w := Cond.selects zC10 zy67 zy67) 53 (by decide +kernel) rfl
set_option maxRecDepth 100000 in
theorem zmk_HummingSet_Wireless_135 : zmm "HummingSet$Wireless" 135 zy67 := Or.inl (zmW 716 (by decide +kernel) rfl)
set_option maxRecDepth 100000 in
theorem zmaL_mmin_HummingSet_Wireless_144 : Cond.methodLink "HummingSet$Wireless" 144 Lib.Math.min.name ∈ zWS := zmW 731 (by decide +kernel) rfl
set_option maxRecDepth 100000 in
theorem zmk_HummingSet_93 : zmm "HummingSet" 93 zy100 := Or.inl (zmW 335 (by decide +kernel) rfl)
set_option maxRecDepth 100000 in
theorem zfk_HummingSet_10 : zfm "HummingSet" 10 "HummingSet" "text" "LHummingSet$Text;" := Or.inl (zmW 404 (by decide +kernel) rfl)
set_option maxRecDepth 100000 in
theorem zca40 : zcal 40 1 := ⟨by decide +kernel, zcw40, by decide +kernel, by decide +kernel, zmW (w := Cond.initialized "HummingSet$Text") 2 (by decide +kernel) rfl⟩
set_option maxRecDepth 100000 in
theorem zin40 : Cond.instanceMethod (zy 40) ∈ zWS := zmW (w := Cond.instanceMethod zy40) 447 (by decide +kernel) rfl
set_option maxRecDepth 100000 in
theorem zse40 : Cond.selects zC8 (zy 40) (zy 40) ∈ zWS := zmS (w := Cond.selects zC8 zy40 zy40) 17 (by decide +kernel) rfl
set_option maxRecDepth 100000 in
theorem zmk_HummingSet_96 : zmm "HummingSet" 96 zy40 := Or.inr ⟨"HummingSet", zmN 445 (by decide +kernel) rfl⟩
set_option maxRecDepth 100000 in
theorem zca41 : zcal 41 2 := ⟨by decide +kernel, zcw41, by decide +kernel, by decide +kernel, zmW (w := Cond.initialized "HummingSet$Text") 2 (by decide +kernel) rfl⟩
set_option maxRecDepth 100000 in
theorem zin41 : Cond.instanceMethod (zy 41) ∈ zWS := zmW (w := Cond.instanceMethod zy41) 451 (by decide +kernel) rfl
set_option maxRecDepth 100000 in
theorem zse41 : Cond.selects zC8 (zy 41) (zy 41) ∈ zWS := zmS (w := Cond.selects zC8 zy41 zy41) 18 (by decide +kernel) rfl
set_option maxRecDepth 100000 in
theorem zmk_HummingSet_100 : zmm "HummingSet" 100 zy41 := Or.inr ⟨"HummingSet", zmN 449 (by decide +kernel) rfl⟩
set_option maxRecDepth 100000 in
theorem zfk_HummingSet_104 : zfm "HummingSet" 104 "HummingSet$Text" "length" "I" := Or.inr ⟨"HummingSet", zmN 33 (by decide +kernel) rfl⟩
set_option maxRecDepth 100000 in
theorem zfk_HummingSet_19 : zfm "HummingSet" 19 "HummingSet" "reader" "LHummingSet$Reader;" := Or.inl (zmW 405 (by decide +kernel) rfl)
set_option maxRecDepth 100000 in
theorem zfk_HummingSet_71 : zfm "HummingSet" 71 "HummingSet" "spare" "LHummingSet$Wireless;" := Or.inl (zmW 414 (by decide +kernel) rfl)
set_option maxRecDepth 100000 in
theorem zca28 : zcal 28 2 := ⟨by decide +kernel, zcw28, by decide +kernel, by decide +kernel, zmW (w := Cond.initialized "HummingSet$Reader") 3 (by decide +kernel) rfl⟩
set_option maxRecDepth 100000 in
theorem zin28 : Cond.instanceMethod (zy 28) ∈ zWS := zmW (w := Cond.instanceMethod zy28) 463 (by decide +kernel) rfl
set_option maxRecDepth 100000 in
theorem zse28 : Cond.selects zC5 (zy 28) (zy 28) ∈ zWS := zmS (w := Cond.selects zC5 zy28 zy28) 19 (by decide +kernel) rfl
set_option maxRecDepth 100000 in
theorem zmk_HummingSet_108 : zmm "HummingSet" 108 zy28 := Or.inr ⟨"HummingSet", zmN 461 (by decide +kernel) rfl⟩
set_option maxRecDepth 100000 in
theorem zfk_HummingSet_112 : zfm "HummingSet" 112 "HummingSet$Wireless" "stageCount" "I" := Or.inr ⟨"HummingSet", zmN 280 (by decide +kernel) rfl⟩
set_option maxRecDepth 100000 in
theorem zfk_HummingSet_115 : zfm "HummingSet" 115 "HummingSet$Wireless" "partCount" "I" := Or.inr ⟨"HummingSet", zmN 284 (by decide +kernel) rfl⟩
set_option maxRecDepth 100000 in
theorem zfk_HummingSet_67 : zfm "HummingSet" 67 "HummingSet" "laid" "LHummingSet$Wireless;" := Or.inl (zmW 413 (by decide +kernel) rfl)
set_option maxRecDepth 100000 in
theorem zfk_HummingSet_33 : zfm "HummingSet" 33 "HummingSet" "answers" "LHummingSet$Answers;" := Or.inl (zmW 407 (by decide +kernel) rfl)
set_option maxRecDepth 100000 in
theorem zfk_HummingSet_118 : zfm "HummingSet" 118 "HummingSet$Answers" "count" "I" := Or.inr ⟨"HummingSet", zmN 87 (by decide +kernel) rfl⟩
set_option maxRecDepth 100000 in
theorem zfk_HummingSet_121 : zfm "HummingSet" 121 "HummingSet" "kept" "I" := Or.inl (zmW 415 (by decide +kernel) rfl)
set_option maxRecDepth 100000 in
theorem zfk_HummingSet_60 : zfm "HummingSet" 60 "HummingSet" "plan" "LHummingSet$Plan;" := Or.inl (zmW 412 (by decide +kernel) rfl)
set_option maxRecDepth 100000 in
theorem zfk_HummingSet_26 : zfm "HummingSet" 26 "HummingSet" "bench" "LHummingSet$Bench;" := Or.inl (zmW 406 (by decide +kernel) rfl)
set_option maxRecDepth 100000 in
theorem zca22 : zcal 22 2 := ⟨by decide +kernel, zcw22, by decide +kernel, by decide +kernel, zmW (w := Cond.initialized "HummingSet$Plan") 8 (by decide +kernel) rfl⟩
set_option maxRecDepth 100000 in
theorem zin22 : Cond.instanceMethod (zy 22) ∈ zWS := zmW (w := Cond.instanceMethod zy22) 338 (by decide +kernel) rfl
set_option maxRecDepth 100000 in
theorem zse22 : Cond.selects zC4 (zy 22) (zy 22) ∈ zWS := zmS (w := Cond.selects zC4 zy22 zy22) 6 (by decide +kernel) rfl
set_option maxRecDepth 100000 in
theorem zmk_HummingSet_86 : zmm "HummingSet" 86 zy22 := Or.inr ⟨"HummingSet", zmN 336 (by decide +kernel) rfl⟩
set_option maxRecDepth 100000 in
theorem zca98 : zcal 98 0 := ⟨by decide +kernel, zcw98, by decide +kernel, by decide +kernel, zmW (w := Cond.initialized "HummingSet") 1 (by decide +kernel) rfl⟩
set_option maxRecDepth 100000 in
theorem zin98 : Cond.instanceMethod (zy 98) ∈ zWS := zmW (w := Cond.instanceMethod zy98) 368 (by decide +kernel) rfl
set_option maxRecDepth 100000 in
theorem zse98 : Cond.selects zC11 (zy 98) (zy 98) ∈ zWS := zmS (w := Cond.selects zC11 zy98 zy98) 11 (by decide +kernel) rfl
set_option maxRecDepth 100000 in
theorem zmk_HummingSet_90 : zmm "HummingSet" 90 zy98 := Or.inl (zmW 366 (by decide +kernel) rfl)
set_option maxRecDepth 100000 in
theorem zmk_HummingSet_124 : zmm "HummingSet" 124 zy47 := Or.inr ⟨"HummingSet", zmN 521 (by decide +kernel) rfl⟩
set_option maxRecDepth 100000 in
theorem zfk_HummingSet_127 : zfm "HummingSet" 127 "HummingSet$Wireless" "parts" "[LHummingSet$Part;" := Or.inr ⟨"HummingSet", zmN 272 (by decide +kernel) rfl⟩
set_option maxRecDepth 100000 in
theorem zfk_HummingSet_131 : zfm "HummingSet" 131 "HummingSet$Part" "stage" "I" := Or.inr ⟨"HummingSet", zmN 211 (by decide +kernel) rfl⟩
set_option maxRecDepth 100000 in
theorem zfk_HummingSet_136 : zfm "HummingSet" 136 "HummingSet$Part" "kind" "I" := Or.inr ⟨"HummingSet", zmN 213 (by decide +kernel) rfl⟩
set_option maxRecDepth 100000 in
theorem zfk_HummingSet_139 : zfm "HummingSet" 139 "HummingSet$Part" "age" "I" := Or.inr ⟨"HummingSet", zmN 216 (by decide +kernel) rfl⟩
set_option maxRecDepth 100000 in
theorem zfk_HummingSet_142 : zfm "HummingSet" 142 "HummingSet$Part" "trouble" "I" := Or.inr ⟨"HummingSet", zmN 218 (by decide +kernel) rfl⟩
set_option maxRecDepth 100000 in
theorem zfk_HummingSet_145 : zfm "HummingSet" 145 "HummingSet$Part" "warm" "I" := Or.inr ⟨"HummingSet", zmN 221 (by decide +kernel) rfl⟩
set_option maxRecDepth 100000 in
theorem zfk_HummingSet_148 : zfm "HummingSet" 148 "HummingSet$Part" "cost" "I" := Or.inr ⟨"HummingSet", zmN 224 (by decide +kernel) rfl⟩
set_option maxRecDepth 100000 in
theorem zmk_HummingSet_151 : zmm "HummingSet" 151 zy48 := Or.inr ⟨"HummingSet", zmN 526 (by decide +kernel) rfl⟩
set_option maxRecDepth 100000 in
theorem zmk_HummingSet_154 : zmm "HummingSet" 154 zy101 := Or.inl (zmW 527 (by decide +kernel) rfl)
set_option maxRecDepth 100000 in
theorem zca102 : zcal 102 1 := ⟨by decide +kernel, zcw102, by decide +kernel, by decide +kernel, zmW (w := Cond.initialized "HummingSet") 1 (by decide +kernel) rfl⟩
set_option maxRecDepth 100000 in
theorem zst102 : Cond.static (zy 102) ∈ zWS := zmW (w := Cond.static zy102) 529 (by decide +kernel) rfl
set_option maxRecDepth 100000 in
theorem zmk_HummingSet_157 : zmm "HummingSet" 157 zy102 := Or.inl (zmW 528 (by decide +kernel) rfl)
set_option maxRecDepth 100000 in
theorem zmk_HummingSet_161 : zmm "HummingSet" 161 zy4 := Or.inr ⟨"HummingSet", zmN 532 (by decide +kernel) rfl⟩
set_option maxRecDepth 100000 in
theorem zfk_HummingSet_165 : zfm "HummingSet" 165 "HummingSet$Bench" "ends" "[I" := Or.inr ⟨"HummingSet", zmN 65 (by decide +kernel) rfl⟩
set_option maxRecDepth 100000 in
theorem zmk_HummingSet_169 : zmm "HummingSet" 169 zy46 := Or.inr ⟨"HummingSet", zmN 537 (by decide +kernel) rfl⟩
set_option maxRecDepth 100000 in
theorem zfk_HummingSet_172 : zfm "HummingSet" 172 "HummingSet$Bench" "ins" "[[I" := Or.inr ⟨"HummingSet", zmN 63 (by decide +kernel) rfl⟩
set_option maxRecDepth 100000 in
theorem zmk_HummingSet_176 : zmm "HummingSet" 176 zy6 := Or.inr ⟨"HummingSet", zmN 542 (by decide +kernel) rfl⟩
set_option maxRecDepth 100000 in
theorem zca7 : zcal 7 0 := ⟨by decide +kernel, zcw7, by decide +kernel, by decide +kernel, zmW (w := Cond.initialized "HummingSet$Bench") 4 (by decide +kernel) rfl⟩
set_option maxRecDepth 100000 in
theorem zin7 : Cond.instanceMethod (zy 7) ∈ zWS := zmW (w := Cond.instanceMethod zy7) 545 (by decide +kernel) rfl
set_option maxRecDepth 100000 in
theorem zse7 : Cond.selects zC1 (zy 7) (zy 7) ∈ zWS := zmS (w := Cond.selects zC1 zy7 zy7) 30 (by decide +kernel) rfl
set_option maxRecDepth 100000 in
theorem zmk_HummingSet_180 : zmm "HummingSet" 180 zy7 := Or.inr ⟨"HummingSet", zmN 543 (by decide +kernel) rfl⟩
set_option maxRecDepth 100000 in
theorem zca49 : zcal 49 2 := ⟨by decide +kernel, zcw49, by decide +kernel, by decide +kernel, zmW (w := Cond.initialized "HummingSet$Wireless") 9 (by decide +kernel) rfl⟩
set_option maxRecDepth 100000 in
theorem zin49 : Cond.instanceMethod (zy 49) ∈ zWS := zmW (w := Cond.instanceMethod zy49) 553 (by decide +kernel) rfl
set_option maxRecDepth 100000 in
theorem zse49 : Cond.selects zC10 (zy 49) (zy 49) ∈ zWS := zmS (w := Cond.selects zC10 zy49 zy49) 31 (by decide +kernel) rfl
set_option maxRecDepth 100000 in
theorem zmk_HummingSet_184 : zmm "HummingSet" 184 zy49 := Or.inr ⟨"HummingSet", zmN 551 (by decide +kernel) rfl⟩
set_option maxRecDepth 100000 in
theorem zmk_HummingSet_187 : zmm "HummingSet" 187 zy9 := Or.inr ⟨"HummingSet", zmN 559 (by decide +kernel) rfl⟩
set_option maxRecDepth 100000 in
theorem zmk_HummingSet_191 : zmm "HummingSet" 191 zy60 := Or.inr ⟨"HummingSet", zmN 564 (by decide +kernel) rfl⟩
set_option maxRecDepth 100000 in
theorem zca19 : zcal 19 1 := ⟨by decide +kernel, zcw19, by decide +kernel, by decide +kernel, zmW (w := Cond.initialized "HummingSet$Part") 11 (by decide +kernel) rfl⟩
set_option maxRecDepth 100000 in
theorem zin19 : Cond.instanceMethod (zy 19) ∈ zWS := zmW (w := Cond.instanceMethod zy19) 582 (by decide +kernel) rfl
set_option maxRecDepth 100000 in
theorem zse19 : Cond.selects zC3 (zy 19) (zy 19) ∈ zWS := zmS (w := Cond.selects zC3 zy19 zy19) 36 (by decide +kernel) rfl
set_option maxRecDepth 100000 in
theorem zmk_HummingSet_195 : zmm "HummingSet" 195 zy19 := Or.inr ⟨"HummingSet", zmN 580 (by decide +kernel) rfl⟩
set_option maxRecDepth 100000 in
theorem zca63 : zcal 63 0 := ⟨by decide +kernel, zcw63, by decide +kernel, by decide +kernel, zmW (w := Cond.initialized "HummingSet$Wireless") 9 (by decide +kernel) rfl⟩
set_option maxRecDepth 100000 in
theorem zin63 : Cond.instanceMethod (zy 63) ∈ zWS := zmW (w := Cond.instanceMethod zy63) 597 (by decide +kernel) rfl
set_option maxRecDepth 100000 in
theorem zse63 : Cond.selects zC10 (zy 63) (zy 63) ∈ zWS := zmS (w := Cond.selects zC10 zy63 zy63) 38 (by decide +kernel) rfl
set_option maxRecDepth 100000 in
theorem zmk_HummingSet_199 : zmm "HummingSet" 199 zy63 := Or.inr ⟨"HummingSet", zmN 595 (by decide +kernel) rfl⟩
set_option maxRecDepth 100000 in
theorem zmk_HummingSet_202 : zmm "HummingSet" 202 zy1 := Or.inr ⟨"HummingSet", zmN 608 (by decide +kernel) rfl⟩
set_option maxRecDepth 100000 in
theorem zfk_HummingSet_46 : zfm "HummingSet" 46 "HummingSet" "cases" "LHummingSet$Cases;" := Or.inl (zmW 410 (by decide +kernel) rfl)
set_option maxRecDepth 100000 in
theorem zca14 : zcal 14 4 := ⟨by decide +kernel, zcw14, by decide +kernel, by decide +kernel, zmW (w := Cond.initialized "HummingSet$Cases") 6 (by decide +kernel) rfl⟩
set_option maxRecDepth 100000 in
theorem zin14 : Cond.instanceMethod (zy 14) ∈ zWS := zmW (w := Cond.instanceMethod zy14) 386 (by decide +kernel) rfl
set_option maxRecDepth 100000 in
theorem zse14 : Cond.selects zC2 (zy 14) (zy 14) ∈ zWS := zmS (w := Cond.selects zC2 zy14 zy14) 15 (by decide +kernel) rfl
set_option maxRecDepth 100000 in
theorem zmk_HummingSet_206 : zmm "HummingSet" 206 zy14 := Or.inr ⟨"HummingSet", zmN 384 (by decide +kernel) rfl⟩
set_option maxRecDepth 100000 in
theorem zfk_HummingSet_212 : zfm "HummingSet" 212 "HummingSet$Cases" "count" "I" := Or.inr ⟨"HummingSet", zmN 114 (by decide +kernel) rfl⟩
set_option maxRecDepth 100000 in
theorem zfk_HummingSet_213 : zfm "HummingSet" 213 "HummingSet$Cases" "total" "J" := Or.inr ⟨"HummingSet", zmN 117 (by decide +kernel) rfl⟩
set_option maxRecDepth 100000 in
theorem zca15 : zcal 15 1 := ⟨by decide +kernel, zcw15, by decide +kernel, by decide +kernel, zmW (w := Cond.initialized "HummingSet$Cases") 6 (by decide +kernel) rfl⟩
set_option maxRecDepth 100000 in
theorem zin15 : Cond.instanceMethod (zy 15) ∈ zWS := zmW (w := Cond.instanceMethod zy15) 628 (by decide +kernel) rfl
set_option maxRecDepth 100000 in
theorem zse15 : Cond.selects zC2 (zy 15) (zy 15) ∈ zWS := zmS (w := Cond.selects zC2 zy15 zy15) 41 (by decide +kernel) rfl
set_option maxRecDepth 100000 in
theorem zmk_HummingSet_219 : zmm "HummingSet" 219 zy15 := Or.inr ⟨"HummingSet", zmN 626 (by decide +kernel) rfl⟩
set_option maxRecDepth 100000 in
theorem zca103 : zcal 103 2 := ⟨by decide +kernel, zcw103, by decide +kernel, by decide +kernel, zmW (w := Cond.initialized "HummingSet") 1 (by decide +kernel) rfl⟩
set_option maxRecDepth 100000 in
theorem zst103 : Cond.static (zy 103) ∈ zWS := zmW (w := Cond.static zy103) 631 (by decide +kernel) rfl
set_option maxRecDepth 100000 in
theorem zmk_HummingSet_223 : zmm "HummingSet" 223 zy103 := Or.inl (zmW 630 (by decide +kernel) rfl)
set_option maxRecDepth 100000 in
theorem zca16 : zcal 16 0 := ⟨by decide +kernel, zcw16, by decide +kernel, by decide +kernel, zmW (w := Cond.initialized "HummingSet$Cases") 6 (by decide +kernel) rfl⟩
set_option maxRecDepth 100000 in
theorem zin16 : Cond.instanceMethod (zy 16) ∈ zWS := zmW (w := Cond.instanceMethod zy16) 639 (by decide +kernel) rfl
set_option maxRecDepth 100000 in
theorem zse16 : Cond.selects zC2 (zy 16) (zy 16) ∈ zWS := zmS (w := Cond.selects zC2 zy16 zy16) 42 (by decide +kernel) rfl
set_option maxRecDepth 100000 in
theorem zmk_HummingSet_227 : zmm "HummingSet" 227 zy16 := Or.inr ⟨"HummingSet", zmN 637 (by decide +kernel) rfl⟩
set_option maxRecDepth 100000 in
theorem zfk_HummingSet_53 : zfm "HummingSet" 53 "HummingSet" "search" "LHummingSet$Search;" := Or.inl (zmW 411 (by decide +kernel) rfl)
set_option maxRecDepth 100000 in
theorem zca34 : zcal 34 4 := ⟨by decide +kernel, zcw34, by decide +kernel, by decide +kernel, zmW (w := Cond.initialized "HummingSet$Search") 7 (by decide +kernel) rfl⟩
set_option maxRecDepth 100000 in
theorem zin34 : Cond.instanceMethod (zy 34) ∈ zWS := zmW (w := Cond.instanceMethod zy34) 647 (by decide +kernel) rfl
set_option maxRecDepth 100000 in
theorem zse34 : Cond.selects zC6 (zy 34) (zy 34) ∈ zWS := zmS (w := Cond.selects zC6 zy34 zy34) 43 (by decide +kernel) rfl
set_option maxRecDepth 100000 in
theorem zmk_HummingSet_230 : zmm "HummingSet" 230 zy34 := Or.inr ⟨"HummingSet", zmN 645 (by decide +kernel) rfl⟩
set_option maxRecDepth 100000 in
theorem zfk_HummingSet_234 : zfm "HummingSet" 234 "HummingSet$Search" "kind" "I" := Or.inr ⟨"HummingSet", zmN 136 (by decide +kernel) rfl⟩
set_option maxRecDepth 100000 in
theorem zfk_HummingSet_235 : zfm "HummingSet" 235 "HummingSet$Search" "of" "I" := Or.inr ⟨"HummingSet", zmN 138 (by decide +kernel) rfl⟩
set_option maxRecDepth 100000 in
theorem zfk_HummingSet_238 : zfm "HummingSet" 238 "HummingSet$Search" "weight" "J" := Or.inr ⟨"HummingSet", zmN 140 (by decide +kernel) rfl⟩
set_option maxRecDepth 100000 in
theorem zca24 : zcal 24 3 := ⟨by decide +kernel, zcw24, by decide +kernel, by decide +kernel, zmW (w := Cond.initialized "HummingSet$Plan") 8 (by decide +kernel) rfl⟩
set_option maxRecDepth 100000 in
theorem zin24 : Cond.instanceMethod (zy 24) ∈ zWS := zmW (w := Cond.instanceMethod zy24) 675 (by decide +kernel) rfl
set_option maxRecDepth 100000 in
theorem zse24 : Cond.selects zC4 (zy 24) (zy 24) ∈ zWS := zmS (w := Cond.selects zC4 zy24 zy24) 46 (by decide +kernel) rfl
set_option maxRecDepth 100000 in
theorem zmk_HummingSet_241 : zmm "HummingSet" 241 zy24 := Or.inr ⟨"HummingSet", zmN 673 (by decide +kernel) rfl⟩
set_option maxRecDepth 100000 in
theorem zmk_HummingSet_245 : zmm "HummingSet" 245 zy65 := Or.inr ⟨"HummingSet", zmN 686 (by decide +kernel) rfl⟩
set_option maxRecDepth 100000 in
theorem zca25 : zcal 25 2 := ⟨by decide +kernel, zcw25, by decide +kernel, by decide +kernel, zmW (w := Cond.initialized "HummingSet$Plan") 8 (by decide +kernel) rfl⟩
set_option maxRecDepth 100000 in
theorem zin25 : Cond.instanceMethod (zy 25) ∈ zWS := zmW (w := Cond.instanceMethod zy25) 693 (by decide +kernel) rfl
set_option maxRecDepth 100000 in
theorem zse25 : Cond.selects zC4 (zy 25) (zy 25) ∈ zWS := zmS (w := Cond.selects zC4 zy25 zy25) 49 (by decide +kernel) rfl
set_option maxRecDepth 100000 in
theorem zmk_HummingSet_248 : zmm "HummingSet" 248 zy25 := Or.inr ⟨"HummingSet", zmN 691 (by decide +kernel) rfl⟩
set_option maxRecDepth 100000 in
theorem zfk_HummingSet_252 : zfm "HummingSet" 252 "HummingSet$Plan" "sums" "[J" := Or.inr ⟨"HummingSet", zmN 161 (by decide +kernel) rfl⟩
set_option maxRecDepth 100000 in
theorem zfk_HummingSet_256 : zfm "HummingSet" 256 "HummingSet$Plan" "firstPart" "I" := Or.inr ⟨"HummingSet", zmN 163 (by decide +kernel) rfl⟩
set_option maxRecDepth 100000 in
theorem zca99 : zcal 99 1 := ⟨by decide +kernel, zcw99, by decide +kernel, by decide +kernel, zmW (w := Cond.initialized "HummingSet") 1 (by decide +kernel) rfl⟩
set_option maxRecDepth 100000 in
theorem zin99 : Cond.instanceMethod (zy 99) ∈ zWS := zmW (w := Cond.instanceMethod zy99) 706 (by decide +kernel) rfl
set_option maxRecDepth 100000 in
theorem zse99 : Cond.selects zC11 (zy 99) (zy 99) ∈ zWS := zmS (w := Cond.selects zC11 zy99 zy99) 51 (by decide +kernel) rfl
set_option maxRecDepth 100000 in
theorem zmk_HummingSet_259 : zmm "HummingSet" 259 zy99 := Or.inl (zmW 704 (by decide +kernel) rfl)
set_option maxRecDepth 100000 in
theorem zca66 : zcal 66 0 := ⟨by decide +kernel, zcw66, by decide +kernel, by decide +kernel, zmW (w := Cond.initialized "HummingSet$Wireless") 9 (by decide +kernel) rfl⟩
set_option maxRecDepth 100000 in
theorem zin66 : Cond.instanceMethod (zy 66) ∈ zWS := zmW (w := Cond.instanceMethod zy66) 714 (by decide +kernel) rfl
set_option maxRecDepth 100000 in
theorem zse66 : Cond.selects zC10 (zy 66) (zy 66) ∈ zWS := zmS (w := Cond.selects zC10 zy66 zy66) 52 (by decide +kernel) rfl
set_option maxRecDepth 100000 in
theorem zmk_HummingSet_262 : zmm "HummingSet" 262 zy66 := Or.inr ⟨"HummingSet", zmN 712 (by decide +kernel) rfl⟩
set_option maxRecDepth 100000 in
theorem zca68 : zcal 68 2 := ⟨by decide +kernel, zcw68, by decide +kernel, by decide +kernel, zmW (w := Cond.initialized "HummingSet$Wireless") 9 (by decide +kernel) rfl⟩
set_option maxRecDepth 100000 in
theorem zin68 : Cond.instanceMethod (zy 68) ∈ zWS := zmW (w := Cond.instanceMethod zy68) 728 (by decide +kernel) rfl
set_option maxRecDepth 100000 in
theorem zse68 : Cond.selects zC10 (zy 68) (zy 68) ∈ zWS := zmS (w := Cond.selects zC10 zy68 zy68) 54 (by decide +kernel) rfl
set_option maxRecDepth 100000 in
theorem zmk_HummingSet_265 : zmm "HummingSet" 265 zy68 := Or.inr ⟨"HummingSet", zmN 726 (by decide +kernel) rfl⟩
set_option maxRecDepth 100000 in
theorem zfk_HummingSet_37 : zfm "HummingSet" 37 "HummingSet" "firstKept" "LHummingSet$Answers;" := Or.inl (zmW 408 (by decide +kernel) rfl)
set_option maxRecDepth 100000 in
theorem zca2 : zcal 2 1 := ⟨by decide +kernel, zcw2, by decide +kernel, by decide +kernel, zmW (w := Cond.initialized "HummingSet$Answers") 5 (by decide +kernel) rfl⟩
set_option maxRecDepth 100000 in
theorem zin2 : Cond.instanceMethod (zy 2) ∈ zWS := zmW (w := Cond.instanceMethod zy2) 750 (by decide +kernel) rfl
set_option maxRecDepth 100000 in
theorem zse2 : Cond.selects zC0 (zy 2) (zy 2) ∈ zWS := zmS (w := Cond.selects zC0 zy2 zy2) 55 (by decide +kernel) rfl
set_option maxRecDepth 100000 in
theorem zmk_HummingSet_276 : zmm "HummingSet" 276 zy2 := Or.inr ⟨"HummingSet", zmN 748 (by decide +kernel) rfl⟩
set_option maxRecDepth 100000 in
theorem zfk_HummingSet_40 : zfm "HummingSet" 40 "HummingSet" "secondKept" "LHummingSet$Answers;" := Or.inl (zmW 409 (by decide +kernel) rfl)
set_option maxRecDepth 100000 in
theorem zca12 : zcal 12 1 := ⟨by decide +kernel, zcw12, by decide +kernel, by decide +kernel, zmW (w := Cond.initialized "HummingSet$Cases") 6 (by decide +kernel) rfl⟩
set_option maxRecDepth 100000 in
theorem zin12 : Cond.instanceMethod (zy 12) ∈ zWS := zmW (w := Cond.instanceMethod zy12) 372 (by decide +kernel) rfl
set_option maxRecDepth 100000 in
theorem zse12 : Cond.selects zC2 (zy 12) (zy 12) ∈ zWS := zmS (w := Cond.selects zC2 zy12 zy12) 12 (by decide +kernel) rfl
set_option maxRecDepth 100000 in
theorem zmk_HummingSet_280 : zmm "HummingSet" 280 zy12 := Or.inr ⟨"HummingSet", zmN 370 (by decide +kernel) rfl⟩
set_option maxRecDepth 100000 in
theorem zfk_HummingSetModel_40 : zfm "HummingSetModel" 40 "HummingSetModel" "costs" "[I" := Or.inl (zmW 786 (by decide +kernel) rfl)
set_option maxRecDepth 100000 in
theorem zfk_HummingSetModel_43 : zfm "HummingSetModel" 43 "HummingSetModel" "volts0" "[I" := Or.inl (zmW 787 (by decide +kernel) rfl)
set_option maxRecDepth 100000 in
theorem zfk_HummingSetModel_46 : zfm "HummingSetModel" 46 "HummingSetModel" "losses" "[I" := Or.inl (zmW 788 (by decide +kernel) rfl)
set_option maxRecDepth 100000 in
theorem zfk_HummingSetModel_52 : zfm "HummingSetModel" 52 "HummingSetModel" "lets" "[I" := Or.inl (zmW 790 (by decide +kernel) rfl)
set_option maxRecDepth 100000 in
theorem zfk_HummingSetModel_13 : zfm "HummingSetModel" 13 "HummingSetModel" "stageMany" "[I" := Or.inl (zmW 777 (by decide +kernel) rfl)
set_option maxRecDepth 100000 in
theorem zfk_HummingSetModel_22 : zfm "HummingSetModel" 22 "HummingSetModel" "partMany" "[I" := Or.inl (zmW 780 (by decide +kernel) rfl)
set_option maxRecDepth 100000 in
theorem zfk_HummingSetModel_49 : zfm "HummingSetModel" 49 "HummingSetModel" "letsMany" "[I" := Or.inl (zmW 789 (by decide +kernel) rfl)
set_option maxRecDepth 100000 in
theorem zfk_HummingSetModel_55 : zfm "HummingSetModel" 55 "HummingSetModel" "comesMany" "[I" := Or.inl (zmW 791 (by decide +kernel) rfl)
set_option maxRecDepth 100000 in
theorem zfk_HummingSetModel_61 : zfm "HummingSetModel" 61 "HummingSetModel" "wayMany" "[I" := Or.inl (zmW 793 (by decide +kernel) rfl)
set_option maxRecDepth 100000 in
theorem zfk_HummingSetModel_58 : zfm "HummingSetModel" 58 "HummingSetModel" "comes" "[I" := Or.inl (zmW 792 (by decide +kernel) rfl)
set_option maxRecDepth 100000 in
theorem zfk_HummingSetModel_73 : zfm "HummingSetModel" 73 "HummingSetModel" "ears" "[I" := Or.inl (zmW 797 (by decide +kernel) rfl)
set_option maxRecDepth 100000 in
theorem zfk_HummingSetModel_76 : zfm "HummingSetModel" 76 "HummingSetModel" "rates" "[I" := Or.inl (zmW 798 (by decide +kernel) rfl)
set_option maxRecDepth 100000 in
theorem zca105 : zcal 105 3 := ⟨by decide +kernel, zcw105, by decide +kernel, by decide +kernel, zmW (w := Cond.initialized "HummingSetModel") 15 (by decide +kernel) rfl⟩
set_option maxRecDepth 100000 in
theorem zst105 : Cond.static (zy 105) ∈ zWS := zmW (w := Cond.static zy105) 896 (by decide +kernel) rfl
set_option maxRecDepth 100000 in
theorem zmk_HummingSetModel_122 : zmm "HummingSetModel" 122 zy105 := Or.inl (zmW 895 (by decide +kernel) rfl)
set_option maxRecDepth 100000 in
theorem zfk_HummingSetModel_126 : zfm "HummingSetModel" 126 "HummingSetModel" "length" "I" := Or.inl (zmW 775 (by decide +kernel) rfl)
set_option maxRecDepth 100000 in
theorem zfk_HummingSetModel_7 : zfm "HummingSetModel" 7 "HummingSetModel" "text" "[I" := Or.inl (zmW 776 (by decide +kernel) rfl)
set_option maxRecDepth 100000 in
theorem zfk_HummingSetModel_132 : zfm "HummingSetModel" 132 "HummingSetModel" "place" "I" := Or.inl (zmW 805 (by decide +kernel) rfl)
set_option maxRecDepth 100000 in
theorem zca112 : zcal 112 1 := ⟨by decide +kernel, zcw112, by decide +kernel, by decide +kernel, zmW (w := Cond.initialized "HummingSetModel") 15 (by decide +kernel) rfl⟩
set_option maxRecDepth 100000 in
theorem zin112 : Cond.instanceMethod (zy 112) ∈ zWS := zmW (w := Cond.instanceMethod zy112) 917 (by decide +kernel) rfl
set_option maxRecDepth 100000 in
theorem zse112 : Cond.selects zC12 (zy 112) (zy 112) ∈ zWS := zmS (w := Cond.selects zC12 zy112 zy112) 60 (by decide +kernel) rfl
set_option maxRecDepth 100000 in
theorem zmk_HummingSetModel_135 : zmm "HummingSetModel" 135 zy112 := Or.inl (zmW 915 (by decide +kernel) rfl)
set_option maxRecDepth 100000 in
theorem zfk_HummingSetModel_94 : zfm "HummingSetModel" 94 "HummingSetModel" "told" "[I" := Or.inl (zmW 806 (by decide +kernel) rfl)
set_option maxRecDepth 100000 in
theorem zca113 : zcal 113 1 := ⟨by decide +kernel, zcw113, by decide +kernel, by decide +kernel, zmW (w := Cond.initialized "HummingSetModel") 15 (by decide +kernel) rfl⟩
set_option maxRecDepth 100000 in
theorem zin113 : Cond.instanceMethod (zy 113) ∈ zWS := zmW (w := Cond.instanceMethod zy113) 925 (by decide +kernel) rfl
set_option maxRecDepth 100000 in
theorem zse113 : Cond.selects zC12 (zy 113) (zy 113) ∈ zWS := zmS (w := Cond.selects zC12 zy113 zy113) 62 (by decide +kernel) rfl
set_option maxRecDepth 100000 in
theorem zmk_HummingSetModel_145 : zmm "HummingSetModel" 145 zy113 := Or.inl (zmW 923 (by decide +kernel) rfl)
set_option maxRecDepth 100000 in
theorem zfk_HummingSetModel_16 : zfm "HummingSetModel" 16 "HummingSetModel" "gains" "[I" := Or.inl (zmW 778 (by decide +kernel) rfl)
set_option maxRecDepth 100000 in
theorem zfk_HummingSetModel_19 : zfm "HummingSetModel" 19 "HummingSetModel" "bears" "[I" := Or.inl (zmW 779 (by decide +kernel) rfl)
set_option maxRecDepth 100000 in
theorem zca115 : zcal 115 0 := ⟨by decide +kernel, zcw115, by decide +kernel, by decide +kernel, zmW (w := Cond.initialized "HummingSetModel") 15 (by decide +kernel) rfl⟩
set_option maxRecDepth 100000 in
theorem zin115 : Cond.instanceMethod (zy 115) ∈ zWS := zmW (w := Cond.instanceMethod zy115) 938 (by decide +kernel) rfl
set_option maxRecDepth 100000 in
theorem zse115 : Cond.selects zC12 (zy 115) (zy 115) ∈ zWS := zmS (w := Cond.selects zC12 zy115 zy115) 64 (by decide +kernel) rfl
set_option maxRecDepth 100000 in
theorem zmk_HummingSetModel_153 : zmm "HummingSetModel" 153 zy115 := Or.inl (zmW 936 (by decide +kernel) rfl)
set_option maxRecDepth 100000 in
theorem zfk_HummingSetModel_25 : zfm "HummingSetModel" 25 "HummingSetModel" "stageOf" "[I" := Or.inl (zmW 781 (by decide +kernel) rfl)
set_option maxRecDepth 100000 in
theorem zfk_HummingSetModel_28 : zfm "HummingSetModel" 28 "HummingSetModel" "kinds" "[I" := Or.inl (zmW 782 (by decide +kernel) rfl)
set_option maxRecDepth 100000 in
theorem zfk_HummingSetModel_31 : zfm "HummingSetModel" 31 "HummingSetModel" "ages" "[I" := Or.inl (zmW 783 (by decide +kernel) rfl)
set_option maxRecDepth 100000 in
theorem zfk_HummingSetModel_34 : zfm "HummingSetModel" 34 "HummingSetModel" "chances" "[I" := Or.inl (zmW 784 (by decide +kernel) rfl)
set_option maxRecDepth 100000 in
theorem zfk_HummingSetModel_37 : zfm "HummingSetModel" 37 "HummingSetModel" "warms" "[I" := Or.inl (zmW 785 (by decide +kernel) rfl)
set_option maxRecDepth 100000 in
theorem zca108 : zcal 108 1 := ⟨by decide +kernel, zcw108, by decide +kernel, by decide +kernel, zmW (w := Cond.initialized "HummingSetModel") 15 (by decide +kernel) rfl⟩
set_option maxRecDepth 100000 in
theorem zin108 : Cond.instanceMethod (zy 108) ∈ zWS := zmW (w := Cond.instanceMethod zy108) 773 (by decide +kernel) rfl
set_option maxRecDepth 100000 in
theorem zse108 : Cond.selects zC12 (zy 108) (zy 108) ∈ zWS := zmS (w := Cond.selects zC12 zy108 zy108) 57 (by decide +kernel) rfl
set_option maxRecDepth 100000 in
theorem zmk_HummingSetModel_117 : zmm "HummingSetModel" 117 zy108 := Or.inl (zmW 771 (by decide +kernel) rfl)
set_option maxRecDepth 100000 in
theorem zca114 : zcal 114 0 := ⟨by decide +kernel, zcw114, by decide +kernel, by decide +kernel, zmW (w := Cond.initialized "HummingSetModel") 15 (by decide +kernel) rfl⟩
set_option maxRecDepth 100000 in
theorem zin114 : Cond.instanceMethod (zy 114) ∈ zWS := zmW (w := Cond.instanceMethod zy114) 949 (by decide +kernel) rfl
set_option maxRecDepth 100000 in
theorem zse114 : Cond.selects zC12 (zy 114) (zy 114) ∈ zWS := zmS (w := Cond.selects zC12 zy114 zy114) 66 (by decide +kernel) rfl
set_option maxRecDepth 100000 in
theorem zmk_HummingSetModel_163 : zmm "HummingSetModel" 163 zy114 := Or.inl (zmW 947 (by decide +kernel) rfl)
set_option maxRecDepth 100000 in
theorem zfk_HummingSetModel_64 : zfm "HummingSetModel" 64 "HummingSetModel" "wayStage" "[I" := Or.inl (zmW 794 (by decide +kernel) rfl)
set_option maxRecDepth 100000 in
theorem zfk_HummingSetModel_67 : zfm "HummingSetModel" 67 "HummingSetModel" "wayTone" "[I" := Or.inl (zmW 795 (by decide +kernel) rfl)
set_option maxRecDepth 100000 in
theorem zfk_HummingSetModel_70 : zfm "HummingSetModel" 70 "HummingSetModel" "wayBack" "[I" := Or.inl (zmW 796 (by decide +kernel) rfl)
set_option maxRecDepth 100000 in
theorem zca116 : zcal 116 0 := ⟨by decide +kernel, zcw116, by decide +kernel, by decide +kernel, zmW (w := Cond.initialized "HummingSetModel") 15 (by decide +kernel) rfl⟩
set_option maxRecDepth 100000 in
theorem zin116 : Cond.instanceMethod (zy 116) ∈ zWS := zmW (w := Cond.instanceMethod zy116) 921 (by decide +kernel) rfl
set_option maxRecDepth 100000 in
theorem zse116 : Cond.selects zC12 (zy 116) (zy 116) ∈ zWS := zmS (w := Cond.selects zC12 zy116 zy116) 61 (by decide +kernel) rfl
set_option maxRecDepth 100000 in
theorem zmk_HummingSetModel_174 : zmm "HummingSetModel" 174 zy116 := Or.inl (zmW 919 (by decide +kernel) rfl)
set_option maxRecDepth 100000 in
theorem zca117 : zcal 117 0 := ⟨by decide +kernel, zcw117, by decide +kernel, by decide +kernel, zmW (w := Cond.initialized "HummingSetModel") 15 (by decide +kernel) rfl⟩
set_option maxRecDepth 100000 in
theorem zin117 : Cond.instanceMethod (zy 117) ∈ zWS := zmW (w := Cond.instanceMethod zy117) 934 (by decide +kernel) rfl
set_option maxRecDepth 100000 in
theorem zse117 : Cond.selects zC12 (zy 117) (zy 117) ∈ zWS := zmS (w := Cond.selects zC12 zy117 zy117) 63 (by decide +kernel) rfl
set_option maxRecDepth 100000 in
theorem zmk_HummingSetModel_177 : zmm "HummingSetModel" 177 zy117 := Or.inl (zmW 932 (by decide +kernel) rfl)
set_option maxRecDepth 100000 in
theorem zca118 : zcal 118 0 := ⟨by decide +kernel, zcw118, by decide +kernel, by decide +kernel, zmW (w := Cond.initialized "HummingSetModel") 15 (by decide +kernel) rfl⟩
set_option maxRecDepth 100000 in
theorem zin118 : Cond.instanceMethod (zy 118) ∈ zWS := zmW (w := Cond.instanceMethod zy118) 945 (by decide +kernel) rfl
set_option maxRecDepth 100000 in
theorem zse118 : Cond.selects zC12 (zy 118) (zy 118) ∈ zWS := zmS (w := Cond.selects zC12 zy118 zy118) 65 (by decide +kernel) rfl
set_option maxRecDepth 100000 in
theorem zmk_HummingSetModel_180 : zmm "HummingSetModel" 180 zy118 := Or.inl (zmW 943 (by decide +kernel) rfl)
set_option maxRecDepth 100000 in
theorem zca119 : zcal 119 0 := ⟨by decide +kernel, zcw119, by decide +kernel, by decide +kernel, zmW (w := Cond.initialized "HummingSetModel") 15 (by decide +kernel) rfl⟩
set_option maxRecDepth 100000 in
theorem zin119 : Cond.instanceMethod (zy 119) ∈ zWS := zmW (w := Cond.instanceMethod zy119) 955 (by decide +kernel) rfl
set_option maxRecDepth 100000 in
theorem zse119 : Cond.selects zC12 (zy 119) (zy 119) ∈ zWS := zmS (w := Cond.selects zC12 zy119 zy119) 67 (by decide +kernel) rfl
set_option maxRecDepth 100000 in
theorem zmk_HummingSetModel_183 : zmm "HummingSetModel" 183 zy119 := Or.inl (zmW 953 (by decide +kernel) rfl)
set_option maxRecDepth 100000 in
theorem zca120 : zcal 120 0 := ⟨by decide +kernel, zcw120, by decide +kernel, by decide +kernel, zmW (w := Cond.initialized "HummingSetModel") 15 (by decide +kernel) rfl⟩
set_option maxRecDepth 100000 in
theorem zin120 : Cond.instanceMethod (zy 120) ∈ zWS := zmW (w := Cond.instanceMethod zy120) 959 (by decide +kernel) rfl
set_option maxRecDepth 100000 in
theorem zse120 : Cond.selects zC12 (zy 120) (zy 120) ∈ zWS := zmS (w := Cond.selects zC12 zy120 zy120) 68 (by decide +kernel) rfl
set_option maxRecDepth 100000 in
theorem zmk_HummingSetModel_186 : zmm "HummingSetModel" 186 zy120 := Or.inl (zmW 957 (by decide +kernel) rfl)
set_option maxRecDepth 100000 in
theorem zca109 : zcal 109 1 := ⟨by decide +kernel, zcw109, by decide +kernel, by decide +kernel, zmW (w := Cond.initialized "HummingSetModel") 15 (by decide +kernel) rfl⟩
set_option maxRecDepth 100000 in
theorem zin109 : Cond.instanceMethod (zy 109) ∈ zWS := zmW (w := Cond.instanceMethod zy109) 769 (by decide +kernel) rfl
set_option maxRecDepth 100000 in
theorem zse109 : Cond.selects zC12 (zy 109) (zy 109) ∈ zWS := zmS (w := Cond.selects zC12 zy109 zy109) 56 (by decide +kernel) rfl
set_option maxRecDepth 100000 in
theorem zmk_HummingSetModel_113 : zmm "HummingSetModel" 113 zy109 := Or.inl (zmW 767 (by decide +kernel) rfl)
set_option maxRecDepth 100000 in
theorem zca121 : zcal 121 0 := ⟨by decide +kernel, zcw121, by decide +kernel, by decide +kernel, zmW (w := Cond.initialized "HummingSetModel") 15 (by decide +kernel) rfl⟩
set_option maxRecDepth 100000 in
theorem zin121 : Cond.instanceMethod (zy 121) ∈ zWS := zmW (w := Cond.instanceMethod zy121) 913 (by decide +kernel) rfl
set_option maxRecDepth 100000 in
theorem zse121 : Cond.selects zC12 (zy 121) (zy 121) ∈ zWS := zmS (w := Cond.selects zC12 zy121 zy121) 59 (by decide +kernel) rfl
set_option maxRecDepth 100000 in
theorem zmk_HummingSetModel_193 : zmm "HummingSetModel" 193 zy121 := Or.inl (zmW 911 (by decide +kernel) rfl)
set_option maxRecDepth 100000 in
theorem zca122 : zcal 122 0 := ⟨by decide +kernel, zcw122, by decide +kernel, by decide +kernel, zmW (w := Cond.initialized "HummingSetModel") 15 (by decide +kernel) rfl⟩
set_option maxRecDepth 100000 in
theorem zin122 : Cond.instanceMethod (zy 122) ∈ zWS := zmW (w := Cond.instanceMethod zy122) 909 (by decide +kernel) rfl
set_option maxRecDepth 100000 in
theorem zse122 : Cond.selects zC12 (zy 122) (zy 122) ∈ zWS := zmS (w := Cond.selects zC12 zy122 zy122) 58 (by decide +kernel) rfl
set_option maxRecDepth 100000 in
theorem zmk_HummingSetModel_196 : zmm "HummingSetModel" 196 zy122 := Or.inl (zmW 907 (by decide +kernel) rfl)
set_option maxRecDepth 100000 in
theorem zfk_HummingSetModel_79 : zfm "HummingSetModel" 79 "HummingSetModel" "answerMany" "[I" := Or.inl (zmW 799 (by decide +kernel) rfl)
set_option maxRecDepth 100000 in
theorem zfk_HummingSetModel_200 : zfm "HummingSetModel" 200 "HummingSetModel" "keptMany" "I" := Or.inl (zmW 804 (by decide +kernel) rfl)
set_option maxRecDepth 100000 in
theorem zca126 : zcal 126 1 := ⟨by decide +kernel, zcw126, by decide +kernel, by decide +kernel, zmW (w := Cond.initialized "HummingSetModel") 15 (by decide +kernel) rfl⟩
set_option maxRecDepth 100000 in
theorem zin126 : Cond.instanceMethod (zy 126) ∈ zWS := zmW (w := Cond.instanceMethod zy126) 975 (by decide +kernel) rfl
set_option maxRecDepth 100000 in
theorem zse126 : Cond.selects zC12 (zy 126) (zy 126) ∈ zWS := zmS (w := Cond.selects zC12 zy126 zy126) 69 (by decide +kernel) rfl
set_option maxRecDepth 100000 in
theorem zmk_HummingSetModel_203 : zmm "HummingSetModel" 203 zy126 := Or.inl (zmW 973 (by decide +kernel) rfl)
set_option maxRecDepth 100000 in
theorem zca106 : zcal 106 2 := ⟨by decide +kernel, zcw106, by decide +kernel, by decide +kernel, zmW (w := Cond.initialized "HummingSetModel") 15 (by decide +kernel) rfl⟩
set_option maxRecDepth 100000 in
theorem zst106 : Cond.static (zy 106) ∈ zWS := zmW (w := Cond.static zy106) 998 (by decide +kernel) rfl
set_option maxRecDepth 100000 in
theorem zmk_HummingSetModel_208 : zmm "HummingSetModel" 208 zy106 := Or.inl (zmW 997 (by decide +kernel) rfl)
set_option maxRecDepth 100000 in
theorem zca130 : zcal 130 6 := ⟨by decide +kernel, zcw130, by decide +kernel, by decide +kernel, zmW (w := Cond.initialized "HummingSetModel") 15 (by decide +kernel) rfl⟩
set_option maxRecDepth 100000 in
theorem zin130 : Cond.instanceMethod (zy 130) ∈ zWS := zmW (w := Cond.instanceMethod zy130) 995 (by decide +kernel) rfl
set_option maxRecDepth 100000 in
theorem zse130 : Cond.selects zC12 (zy 130) (zy 130) ∈ zWS := zmS (w := Cond.selects zC12 zy130 zy130) 72 (by decide +kernel) rfl
set_option maxRecDepth 100000 in
theorem zmk_HummingSetModel_212 : zmm "HummingSetModel" 212 zy130 := Or.inl (zmW 993 (by decide +kernel) rfl)
set_option maxRecDepth 100000 in
theorem zca131 : zcal 131 5 := ⟨by decide +kernel, zcw131, by decide +kernel, by decide +kernel, zmW (w := Cond.initialized "HummingSetModel") 15 (by decide +kernel) rfl⟩
set_option maxRecDepth 100000 in
theorem zin131 : Cond.instanceMethod (zy 131) ∈ zWS := zmW (w := Cond.instanceMethod zy131) 991 (by decide +kernel) rfl
set_option maxRecDepth 100000 in
theorem zse131 : Cond.selects zC12 (zy 131) (zy 131) ∈ zWS := zmS (w := Cond.selects zC12 zy131 zy131) 71 (by decide +kernel) rfl
set_option maxRecDepth 100000 in
theorem zmk_HummingSetModel_216 : zmm "HummingSetModel" 216 zy131 := Or.inl (zmW 989 (by decide +kernel) rfl)
set_option maxRecDepth 100000 in
theorem zca107 : zcal 107 1 := ⟨by decide +kernel, zcw107, by decide +kernel, by decide +kernel, zmW (w := Cond.initialized "HummingSetModel") 15 (by decide +kernel) rfl⟩
set_option maxRecDepth 100000 in
theorem zst107 : Cond.static (zy 107) ∈ zWS := zmW (w := Cond.static zy107) 1018 (by decide +kernel) rfl
set_option maxRecDepth 100000 in
theorem zmk_HummingSetModel_220 : zmm "HummingSetModel" 220 zy107 := Or.inl (zmW 1017 (by decide +kernel) rfl)
set_option maxRecDepth 100000 in
theorem zca127 : zcal 127 1 := ⟨by decide +kernel, zcw127, by decide +kernel, by decide +kernel, zmW (w := Cond.initialized "HummingSetModel") 15 (by decide +kernel) rfl⟩
set_option maxRecDepth 100000 in
theorem zin127 : Cond.instanceMethod (zy 127) ∈ zWS := zmW (w := Cond.instanceMethod zy127) 984 (by decide +kernel) rfl
set_option maxRecDepth 100000 in
theorem zse127 : Cond.selects zC12 (zy 127) (zy 127) ∈ zWS := zmS (w := Cond.selects zC12 zy127 zy127) 70 (by decide +kernel) rfl
set_option maxRecDepth 100000 in
theorem zmk_HummingSetModel_223 : zmm "HummingSetModel" 223 zy127 := Or.inl (zmW 982 (by decide +kernel) rfl)
set_option maxRecDepth 100000 in
theorem zca128 : zcal 128 1 := ⟨by decide +kernel, zcw128, by decide +kernel, by decide +kernel, zmW (w := Cond.initialized "HummingSetModel") 15 (by decide +kernel) rfl⟩
set_option maxRecDepth 100000 in
theorem zst128 : Cond.static (zy 128) ∈ zWS := zmW (w := Cond.static zy128) 987 (by decide +kernel) rfl
set_option maxRecDepth 100000 in
theorem zmk_HummingSetModel_226 : zmm "HummingSetModel" 226 zy128 := Or.inl (zmW 986 (by decide +kernel) rfl)
set_option maxRecDepth 100000 in
theorem zca125 : zcal 125 1 := ⟨by decide +kernel, zcw125, by decide +kernel, by decide +kernel, zmW (w := Cond.initialized "HummingSetModel") 15 (by decide +kernel) rfl⟩
set_option maxRecDepth 100000 in
theorem zin125 : Cond.instanceMethod (zy 125) ∈ zWS := zmW (w := Cond.instanceMethod zy125) 1007 (by decide +kernel) rfl
set_option maxRecDepth 100000 in
theorem zse125 : Cond.selects zC12 (zy 125) (zy 125) ∈ zWS := zmS (w := Cond.selects zC12 zy125 zy125) 73 (by decide +kernel) rfl
set_option maxRecDepth 100000 in
theorem zmk_HummingSetModel_230 : zmm "HummingSetModel" 230 zy125 := Or.inl (zmW 1005 (by decide +kernel) rfl)
set_option maxRecDepth 100000 in
theorem zca132 : zcal 132 4 := ⟨by decide +kernel, zcw132, by decide +kernel, by decide +kernel, zmW (w := Cond.initialized "HummingSetModel") 15 (by decide +kernel) rfl⟩
set_option maxRecDepth 100000 in
theorem zin132 : Cond.instanceMethod (zy 132) ∈ zWS := zmW (w := Cond.instanceMethod zy132) 1015 (by decide +kernel) rfl
set_option maxRecDepth 100000 in
theorem zse132 : Cond.selects zC12 (zy 132) (zy 132) ∈ zWS := zmS (w := Cond.selects zC12 zy132 zy132) 74 (by decide +kernel) rfl
set_option maxRecDepth 100000 in
theorem zmk_HummingSetModel_233 : zmm "HummingSetModel" 233 zy132 := Or.inl (zmW 1013 (by decide +kernel) rfl)
set_option maxRecDepth 100000 in
theorem zca137 : zcal 137 2 := ⟨by decide +kernel, zcw137, by decide +kernel, by decide +kernel, zmW (w := Cond.initialized "HummingSetModel") 15 (by decide +kernel) rfl⟩
set_option maxRecDepth 100000 in
theorem zin137 : Cond.instanceMethod (zy 137) ∈ zWS := zmW (w := Cond.instanceMethod zy137) 1026 (by decide +kernel) rfl
set_option maxRecDepth 100000 in
theorem zse137 : Cond.selects zC12 (zy 137) (zy 137) ∈ zWS := zmS (w := Cond.selects zC12 zy137 zy137) 75 (by decide +kernel) rfl
set_option maxRecDepth 100000 in
theorem zmk_HummingSetModel_237 : zmm "HummingSetModel" 237 zy137 := Or.inl (zmW 1024 (by decide +kernel) rfl)
set_option maxRecDepth 100000 in
theorem zca138 : zcal 138 4 := ⟨by decide +kernel, zcw138, by decide +kernel, by decide +kernel, zmW (w := Cond.initialized "HummingSetModel") 15 (by decide +kernel) rfl⟩
set_option maxRecDepth 100000 in
theorem zin138 : Cond.instanceMethod (zy 138) ∈ zWS := zmW (w := Cond.instanceMethod zy138) 1030 (by decide +kernel) rfl
set_option maxRecDepth 100000 in
theorem zse138 : Cond.selects zC12 (zy 138) (zy 138) ∈ zWS := zmS (w := Cond.selects zC12 zy138 zy138) 76 (by decide +kernel) rfl
set_option maxRecDepth 100000 in
theorem zmk_HummingSetModel_240 : zmm "HummingSetModel" 240 zy138 := Or.inl (zmW 1028 (by decide +kernel) rfl)
set_option maxRecDepth 100000 in
theorem zca140 : zcal 140 2 := ⟨by decide +kernel, zcw140, by decide +kernel, by decide +kernel, zmW (w := Cond.initialized "HummingSetModel") 15 (by decide +kernel) rfl⟩
set_option maxRecDepth 100000 in
theorem zin140 : Cond.instanceMethod (zy 140) ∈ zWS := zmW (w := Cond.instanceMethod zy140) 1038 (by decide +kernel) rfl
set_option maxRecDepth 100000 in
theorem zse140 : Cond.selects zC12 (zy 140) (zy 140) ∈ zWS := zmS (w := Cond.selects zC12 zy140 zy140) 77 (by decide +kernel) rfl
set_option maxRecDepth 100000 in
theorem zmk_HummingSetModel_243 : zmm "HummingSetModel" 243 zy140 := Or.inl (zmW 1036 (by decide +kernel) rfl)
set_option maxRecDepth 100000 in
theorem zca142 : zcal 142 2 := ⟨by decide +kernel, zcw142, by decide +kernel, by decide +kernel, zmW (w := Cond.initialized "HummingSetModel") 15 (by decide +kernel) rfl⟩
set_option maxRecDepth 100000 in
theorem zin142 : Cond.instanceMethod (zy 142) ∈ zWS := zmW (w := Cond.instanceMethod zy142) 1046 (by decide +kernel) rfl
set_option maxRecDepth 100000 in
theorem zse142 : Cond.selects zC12 (zy 142) (zy 142) ∈ zWS := zmS (w := Cond.selects zC12 zy142 zy142) 78 (by decide +kernel) rfl
set_option maxRecDepth 100000 in
theorem zmk_HummingSetModel_247 : zmm "HummingSetModel" 247 zy142 := Or.inl (zmW 1044 (by decide +kernel) rfl)
set_option maxRecDepth 100000 in
theorem zfk_HummingSetModel_82 : zfm "HummingSetModel" 82 "HummingSetModel" "askKind" "[I" := Or.inl (zmW 800 (by decide +kernel) rfl)
set_option maxRecDepth 100000 in
theorem zfk_HummingSetModel_85 : zfm "HummingSetModel" 85 "HummingSetModel" "askOf" "[I" := Or.inl (zmW 801 (by decide +kernel) rfl)
set_option maxRecDepth 100000 in
theorem zfk_HummingSetModel_88 : zfm "HummingSetModel" 88 "HummingSetModel" "askAt" "[I" := Or.inl (zmW 802 (by decide +kernel) rfl)
set_option maxRecDepth 100000 in
theorem zfk_HummingSetModel_91 : zfm "HummingSetModel" 91 "HummingSetModel" "answers" "[I" := Or.inl (zmW 803 (by decide +kernel) rfl)
set_option maxRecDepth 100000 in
theorem zfk_HummingSetModel_250 : zfm "HummingSetModel" 250 "HummingSetModel" "stateMany" "I" := Or.inl (zmW 807 (by decide +kernel) rfl)
set_option maxRecDepth 100000 in
theorem zca145 : zcal 145 1 := ⟨by decide +kernel, zcw145, by decide +kernel, by decide +kernel, zmW (w := Cond.initialized "HummingSetModel") 15 (by decide +kernel) rfl⟩
set_option maxRecDepth 100000 in
theorem zst145 : Cond.static (zy 145) ∈ zWS := zmW (w := Cond.static zy145) 1070 (by decide +kernel) rfl
set_option maxRecDepth 100000 in
theorem zmk_HummingSetModel_253 : zmm "HummingSetModel" 253 zy145 := Or.inl (zmW 1069 (by decide +kernel) rfl)
set_option maxRecDepth 100000 in
theorem zca146 : zcal 146 1 := ⟨by decide +kernel, zcw146, by decide +kernel, by decide +kernel, zmW (w := Cond.initialized "HummingSetModel") 15 (by decide +kernel) rfl⟩
set_option maxRecDepth 100000 in
theorem zin146 : Cond.instanceMethod (zy 146) ∈ zWS := zmW (w := Cond.instanceMethod zy146) 1074 (by decide +kernel) rfl
set_option maxRecDepth 100000 in
theorem zse146 : Cond.selects zC12 (zy 146) (zy 146) ∈ zWS := zmS (w := Cond.selects zC12 zy146 zy146) 80 (by decide +kernel) rfl
set_option maxRecDepth 100000 in
theorem zmk_HummingSetModel_256 : zmm "HummingSetModel" 256 zy146 := Or.inl (zmW 1072 (by decide +kernel) rfl)
set_option maxRecDepth 100000 in
theorem zca147 : zcal 147 1 := ⟨by decide +kernel, zcw147, by decide +kernel, by decide +kernel, zmW (w := Cond.initialized "HummingSetModel") 15 (by decide +kernel) rfl⟩
set_option maxRecDepth 100000 in
theorem zin147 : Cond.instanceMethod (zy 147) ∈ zWS := zmW (w := Cond.instanceMethod zy147) 1078 (by decide +kernel) rfl
set_option maxRecDepth 100000 in
theorem zse147 : Cond.selects zC12 (zy 147) (zy 147) ∈ zWS := zmS (w := Cond.selects zC12 zy147 zy147) 81 (by decide +kernel) rfl
set_option maxRecDepth 100000 in
theorem zmk_HummingSetModel_260 : zmm "HummingSetModel" 260 zy147 := Or.inl (zmW 1076 (by decide +kernel) rfl)
set_option maxRecDepth 100000 in
theorem zfk_HummingSetModel_97 : zfm "HummingSetModel" 97 "HummingSetModel" "states" "[I" := Or.inl (zmW 808 (by decide +kernel) rfl)
set_option maxRecDepth 100000 in
theorem zfk_HummingSetModel_100 : zfm "HummingSetModel" 100 "HummingSetModel" "weights" "[J" := Or.inl (zmW 809 (by decide +kernel) rfl)
set_option maxRecDepth 100000 in
theorem zca148 : zcal 148 0 := ⟨by decide +kernel, zcw148, by decide +kernel, by decide +kernel, zmW (w := Cond.initialized "HummingSetModel") 15 (by decide +kernel) rfl⟩
set_option maxRecDepth 100000 in
theorem zin148 : Cond.instanceMethod (zy 148) ∈ zWS := zmW (w := Cond.instanceMethod zy148) 1067 (by decide +kernel) rfl
set_option maxRecDepth 100000 in
theorem zse148 : Cond.selects zC12 (zy 148) (zy 148) ∈ zWS := zmS (w := Cond.selects zC12 zy148 zy148) 79 (by decide +kernel) rfl
set_option maxRecDepth 100000 in
theorem zmk_HummingSetModel_265 : zmm "HummingSetModel" 265 zy148 := Or.inl (zmW 1065 (by decide +kernel) rfl)
set_option maxRecDepth 100000 in
theorem zca149 : zcal 149 0 := ⟨by decide +kernel, zcw149, by decide +kernel, by decide +kernel, zmW (w := Cond.initialized "HummingSetModel") 15 (by decide +kernel) rfl⟩
set_option maxRecDepth 100000 in
theorem zin149 : Cond.instanceMethod (zy 149) ∈ zWS := zmW (w := Cond.instanceMethod zy149) 1082 (by decide +kernel) rfl
set_option maxRecDepth 100000 in
theorem zse149 : Cond.selects zC12 (zy 149) (zy 149) ∈ zWS := zmS (w := Cond.selects zC12 zy149 zy149) 82 (by decide +kernel) rfl
set_option maxRecDepth 100000 in
theorem zmk_HummingSetModel_268 : zmm "HummingSetModel" 268 zy149 := Or.inl (zmW 1080 (by decide +kernel) rfl)
set_option maxRecDepth 100000 in
theorem zca153 : zcal 153 2 := ⟨by decide +kernel, zcw153, by decide +kernel, by decide +kernel, zmW (w := Cond.initialized "HummingSetModel") 15 (by decide +kernel) rfl⟩
set_option maxRecDepth 100000 in
theorem zst153 : Cond.static (zy 153) ∈ zWS := zmW (w := Cond.static zy153) 1090 (by decide +kernel) rfl
set_option maxRecDepth 100000 in
theorem zmk_HummingSetModel_274 : zmm "HummingSetModel" 274 zy153 := Or.inl (zmW 1089 (by decide +kernel) rfl)
set_option maxRecDepth 100000 in
theorem zfk_HummingSetModel_104 : zfm "HummingSetModel" 104 "HummingSetModel" "byAnswer" "[J" := Or.inl (zmW 810 (by decide +kernel) rfl)
set_option maxRecDepth 100000 in
theorem zca156 : zcal 156 3 := ⟨by decide +kernel, zcw156, by decide +kernel, by decide +kernel, zmW (w := Cond.initialized "HummingSetModel") 15 (by decide +kernel) rfl⟩
set_option maxRecDepth 100000 in
theorem zin156 : Cond.instanceMethod (zy 156) ∈ zWS := zmW (w := Cond.instanceMethod zy156) 1102 (by decide +kernel) rfl
set_option maxRecDepth 100000 in
theorem zse156 : Cond.selects zC12 (zy 156) (zy 156) ∈ zWS := zmS (w := Cond.selects zC12 zy156 zy156) 83 (by decide +kernel) rfl
set_option maxRecDepth 100000 in
theorem zmk_HummingSetModel_278 : zmm "HummingSetModel" 278 zy156 := Or.inl (zmW 1100 (by decide +kernel) rfl)
set_option maxRecDepth 100000 in
theorem zca157 : zcal 157 1 := ⟨by decide +kernel, zcw157, by decide +kernel, by decide +kernel, zmW (w := Cond.initialized "HummingSetModel") 15 (by decide +kernel) rfl⟩
set_option maxRecDepth 100000 in
theorem zst157 : Cond.static (zy 157) ∈ zWS := zmW (w := Cond.static zy157) 1105 (by decide +kernel) rfl
set_option maxRecDepth 100000 in
theorem zmk_HummingSetModel_282 : zmm "HummingSetModel" 282 zy157 := Or.inl (zmW 1104 (by decide +kernel) rfl)
set_option maxRecDepth 100000 in
theorem zca159 : zcal 159 1 := ⟨by decide +kernel, zcw159, by decide +kernel, by decide +kernel, zmW (w := Cond.initialized "HummingSetModel") 15 (by decide +kernel) rfl⟩
set_option maxRecDepth 100000 in
theorem zin159 : Cond.instanceMethod (zy 159) ∈ zWS := zmW (w := Cond.instanceMethod zy159) 1114 (by decide +kernel) rfl
set_option maxRecDepth 100000 in
theorem zse159 : Cond.selects zC12 (zy 159) (zy 159) ∈ zWS := zmS (w := Cond.selects zC12 zy159 zy159) 84 (by decide +kernel) rfl
set_option maxRecDepth 100000 in
theorem zmk_HummingSetModel_287 : zmm "HummingSetModel" 287 zy159 := Or.inl (zmW 1112 (by decide +kernel) rfl)
set_option maxRecDepth 100000 in
theorem zca160 : zcal 160 1 := ⟨by decide +kernel, zcw160, by decide +kernel, by decide +kernel, zmW (w := Cond.initialized "HummingSetModel") 15 (by decide +kernel) rfl⟩
set_option maxRecDepth 100000 in
theorem zin160 : Cond.instanceMethod (zy 160) ∈ zWS := zmW (w := Cond.instanceMethod zy160) 1118 (by decide +kernel) rfl
set_option maxRecDepth 100000 in
theorem zse160 : Cond.selects zC12 (zy 160) (zy 160) ∈ zWS := zmS (w := Cond.selects zC12 zy160 zy160) 85 (by decide +kernel) rfl
set_option maxRecDepth 100000 in
theorem zmk_HummingSetModel_290 : zmm "HummingSetModel" 290 zy160 := Or.inl (zmW 1116 (by decide +kernel) rfl)
set_option maxRecDepth 100000 in
theorem zfk_HummingSetModel_107 : zfm "HummingSetModel" 107 "HummingSetModel" "least" "[J" := Or.inl (zmW 811 (by decide +kernel) rfl)
set_option maxRecDepth 100000 in
theorem zca162 : zcal 162 1 := ⟨by decide +kernel, zcw162, by decide +kernel, by decide +kernel, zmW (w := Cond.initialized "HummingSetModel") 15 (by decide +kernel) rfl⟩
set_option maxRecDepth 100000 in
theorem zin162 : Cond.instanceMethod (zy 162) ∈ zWS := zmW (w := Cond.instanceMethod zy162) 1130 (by decide +kernel) rfl
set_option maxRecDepth 100000 in
theorem zse162 : Cond.selects zC12 (zy 162) (zy 162) ∈ zWS := zmS (w := Cond.selects zC12 zy162 zy162) 87 (by decide +kernel) rfl
set_option maxRecDepth 100000 in
theorem zmk_HummingSetModel_293 : zmm "HummingSetModel" 293 zy162 := Or.inl (zmW 1128 (by decide +kernel) rfl)
set_option maxRecDepth 100000 in
theorem zfk_HummingSetModel_110 : zfm "HummingSetModel" 110 "HummingSetModel" "nexts" "[I" := Or.inl (zmW 812 (by decide +kernel) rfl)
set_option maxRecDepth 100000 in
theorem zca163 : zcal 163 0 := ⟨by decide +kernel, zcw163, by decide +kernel, by decide +kernel, zmW (w := Cond.initialized "HummingSetModel") 15 (by decide +kernel) rfl⟩
set_option maxRecDepth 100000 in
theorem zin163 : Cond.instanceMethod (zy 163) ∈ zWS := zmW (w := Cond.instanceMethod zy163) 1126 (by decide +kernel) rfl
set_option maxRecDepth 100000 in
theorem zse163 : Cond.selects zC12 (zy 163) (zy 163) ∈ zWS := zmS (w := Cond.selects zC12 zy163 zy163) 86 (by decide +kernel) rfl
set_option maxRecDepth 100000 in
theorem zmk_HummingSetModel_296 : zmm "HummingSetModel" 296 zy163 := Or.inl (zmW 1124 (by decide +kernel) rfl)
set_option maxRecDepth 100000 in
theorem zca133 : zcal 133 1 := ⟨by decide +kernel, zcw133, by decide +kernel, by decide +kernel, zmW (w := Cond.initialized "HummingSetModel") 15 (by decide +kernel) rfl⟩
set_option maxRecDepth 100000 in
theorem zin133 : Cond.instanceMethod (zy 133) ∈ zWS := zmW (w := Cond.instanceMethod zy133) 1138 (by decide +kernel) rfl
set_option maxRecDepth 100000 in
theorem zse133 : Cond.selects zC12 (zy 133) (zy 133) ∈ zWS := zmS (w := Cond.selects zC12 zy133 zy133) 88 (by decide +kernel) rfl
set_option maxRecDepth 100000 in
theorem zmk_HummingSetModel_299 : zmm "HummingSetModel" 299 zy133 := Or.inl (zmW 1136 (by decide +kernel) rfl)
set_option maxRecDepth 100000 in
theorem zca167 : zcal 167 2 := ⟨by decide +kernel, zcw167, by decide +kernel, by decide +kernel, zmW (w := Cond.initialized "HummingSetModel") 15 (by decide +kernel) rfl⟩
set_option maxRecDepth 100000 in
theorem zin167 : Cond.instanceMethod (zy 167) ∈ zWS := zmW (w := Cond.instanceMethod zy167) 1151 (by decide +kernel) rfl
set_option maxRecDepth 100000 in
theorem zse167 : Cond.selects zC12 (zy 167) (zy 167) ∈ zWS := zmS (w := Cond.selects zC12 zy167 zy167) 89 (by decide +kernel) rfl
set_option maxRecDepth 100000 in
theorem zmk_HummingSetModel_307 : zmm "HummingSetModel" 307 zy167 := Or.inl (zmW 1149 (by decide +kernel) rfl)
set_option maxRecDepth 100000 in
theorem zca171 : zcal 171 2 := ⟨by decide +kernel, zcw171, by decide +kernel, by decide +kernel, zmW (w := Cond.initialized "HummingSetModel") 15 (by decide +kernel) rfl⟩
set_option maxRecDepth 100000 in
theorem zin171 : Cond.instanceMethod (zy 171) ∈ zWS := zmW (w := Cond.instanceMethod zy171) 1173 (by decide +kernel) rfl
set_option maxRecDepth 100000 in
theorem zse171 : Cond.selects zC12 (zy 171) (zy 171) ∈ zWS := zmS (w := Cond.selects zC12 zy171 zy171) 90 (by decide +kernel) rfl
set_option maxRecDepth 100000 in
theorem zmk_HummingSetModel_318 : zmm "HummingSetModel" 318 zy171 := Or.inl (zmW 1171 (by decide +kernel) rfl)
set_option maxRecDepth 100000 in
theorem zca70 : zcal 70 2 := ⟨by decide +kernel, zcw70, by decide +kernel, by decide +kernel, zmW (w := Cond.initialized "HummingSet") 1 (by decide +kernel) rfl⟩
set_option maxRecDepth 100000 in
theorem zin70 : Cond.instanceMethod (zy 70) ∈ zWS := zmW (w := Cond.instanceMethod zy70) 442 (by decide +kernel) rfl
set_option maxRecDepth 100000 in
theorem zse70 : Cond.selects zC11 (zy 70) (zy 70) ∈ zWS := zmW (w := Cond.selects zC11 zy70 zy70) 443 (by decide +kernel) rfl
set_option maxRecDepth 100000 in
theorem zmk_HummingSetLaw_15 : zmm "HummingSetLaw" 15 zy70 := Or.inl (zmW 441 (by decide +kernel) rfl)
set_option maxRecDepth 100000 in
theorem zca110 : zcal 110 2 := ⟨by decide +kernel, zcw110, by decide +kernel, by decide +kernel, zmW (w := Cond.initialized "HummingSetModel") 15 (by decide +kernel) rfl⟩
set_option maxRecDepth 100000 in
theorem zin110 : Cond.instanceMethod (zy 110) ∈ zWS := zmW (w := Cond.instanceMethod zy110) 891 (by decide +kernel) rfl
set_option maxRecDepth 100000 in
theorem zse110 : Cond.selects zC12 (zy 110) (zy 110) ∈ zWS := zmW (w := Cond.selects zC12 zy110 zy110) 892 (by decide +kernel) rfl
set_option maxRecDepth 100000 in
theorem zmk_HummingSetLaw_19 : zmm "HummingSetLaw" 19 zy110 := Or.inl (zmW 890 (by decide +kernel) rfl)
set_option maxRecDepth 100000 in
theorem zca71 : zcal 71 0 := ⟨by decide +kernel, zcw71, by decide +kernel, by decide +kernel, zmW (w := Cond.initialized "HummingSet") 1 (by decide +kernel) rfl⟩
set_option maxRecDepth 100000 in
theorem zin71 : Cond.instanceMethod (zy 71) ∈ zWS := zmW (w := Cond.instanceMethod zy71) 454 (by decide +kernel) rfl
set_option maxRecDepth 100000 in
theorem zse71 : Cond.selects zC11 (zy 71) (zy 71) ∈ zWS := zmW (w := Cond.selects zC11 zy71 zy71) 455 (by decide +kernel) rfl
set_option maxRecDepth 100000 in
theorem zmk_HummingSetLaw_20 : zmm "HummingSetLaw" 20 zy71 := Or.inl (zmW 453 (by decide +kernel) rfl)
set_option maxRecDepth 100000 in
theorem zca111 : zcal 111 0 := ⟨by decide +kernel, zcw111, by decide +kernel, by decide +kernel, zmW (w := Cond.initialized "HummingSetModel") 15 (by decide +kernel) rfl⟩
set_option maxRecDepth 100000 in
theorem zin111 : Cond.instanceMethod (zy 111) ∈ zWS := zmW (w := Cond.instanceMethod zy111) 900 (by decide +kernel) rfl
set_option maxRecDepth 100000 in
theorem zse111 : Cond.selects zC12 (zy 111) (zy 111) ∈ zWS := zmW (w := Cond.selects zC12 zy111 zy111) 901 (by decide +kernel) rfl
set_option maxRecDepth 100000 in
theorem zmk_HummingSetLaw_24 : zmm "HummingSetLaw" 24 zy111 := Or.inl (zmW 899 (by decide +kernel) rfl)
set_option maxRecDepth 100000 in
theorem zca72 : zcal 72 0 := ⟨by decide +kernel, zcw72, by decide +kernel, by decide +kernel, zmW (w := Cond.initialized "HummingSet") 1 (by decide +kernel) rfl⟩
set_option maxRecDepth 100000 in
theorem zin72 : Cond.instanceMethod (zy 72) ∈ zWS := zmW (w := Cond.instanceMethod zy72) 458 (by decide +kernel) rfl
set_option maxRecDepth 100000 in
theorem zse72 : Cond.selects zC11 (zy 72) (zy 72) ∈ zWS := zmW (w := Cond.selects zC11 zy72 zy72) 459 (by decide +kernel) rfl
set_option maxRecDepth 100000 in
theorem zmk_HummingSetLaw_25 : zmm "HummingSetLaw" 25 zy72 := Or.inl (zmW 457 (by decide +kernel) rfl)
set_option maxRecDepth 100000 in
theorem zca123 : zcal 123 0 := ⟨by decide +kernel, zcw123, by decide +kernel, by decide +kernel, zmW (w := Cond.initialized "HummingSetModel") 15 (by decide +kernel) rfl⟩
set_option maxRecDepth 100000 in
theorem zin123 : Cond.instanceMethod (zy 123) ∈ zWS := zmW (w := Cond.instanceMethod zy123) 904 (by decide +kernel) rfl
set_option maxRecDepth 100000 in
theorem zse123 : Cond.selects zC12 (zy 123) (zy 123) ∈ zWS := zmW (w := Cond.selects zC12 zy123 zy123) 905 (by decide +kernel) rfl
set_option maxRecDepth 100000 in
theorem zmk_HummingSetLaw_28 : zmm "HummingSetLaw" 28 zy123 := Or.inl (zmW 903 (by decide +kernel) rfl)
set_option maxRecDepth 100000 in
theorem zca73 : zcal 73 0 := ⟨by decide +kernel, zcw73, by decide +kernel, by decide +kernel, zmW (w := Cond.initialized "HummingSet") 1 (by decide +kernel) rfl⟩
set_option maxRecDepth 100000 in
theorem zin73 : Cond.instanceMethod (zy 73) ∈ zWS := zmW (w := Cond.instanceMethod zy73) 514 (by decide +kernel) rfl
set_option maxRecDepth 100000 in
theorem zse73 : Cond.selects zC11 (zy 73) (zy 73) ∈ zWS := zmW (w := Cond.selects zC11 zy73 zy73) 515 (by decide +kernel) rfl
set_option maxRecDepth 100000 in
theorem zmk_HummingSetLaw_29 : zmm "HummingSetLaw" 29 zy73 := Or.inl (zmW 513 (by decide +kernel) rfl)
set_option maxRecDepth 100000 in
theorem zca124 : zcal 124 0 := ⟨by decide +kernel, zcw124, by decide +kernel, by decide +kernel, zmW (w := Cond.initialized "HummingSetModel") 15 (by decide +kernel) rfl⟩
set_option maxRecDepth 100000 in
theorem zin124 : Cond.instanceMethod (zy 124) ∈ zWS := zmW (w := Cond.instanceMethod zy124) 966 (by decide +kernel) rfl
set_option maxRecDepth 100000 in
theorem zse124 : Cond.selects zC12 (zy 124) (zy 124) ∈ zWS := zmW (w := Cond.selects zC12 zy124 zy124) 967 (by decide +kernel) rfl
set_option maxRecDepth 100000 in
theorem zmk_HummingSetLaw_32 : zmm "HummingSetLaw" 32 zy124 := Or.inl (zmW 965 (by decide +kernel) rfl)
set_option maxRecDepth 100000 in
theorem zca74 : zcal 74 2 := ⟨by decide +kernel, zcw74, by decide +kernel, by decide +kernel, zmW (w := Cond.initialized "HummingSet") 1 (by decide +kernel) rfl⟩
set_option maxRecDepth 100000 in
theorem zin74 : Cond.instanceMethod (zy 74) ∈ zWS := zmW (w := Cond.instanceMethod zy74) 518 (by decide +kernel) rfl
set_option maxRecDepth 100000 in
theorem zse74 : Cond.selects zC11 (zy 74) (zy 74) ∈ zWS := zmW (w := Cond.selects zC11 zy74 zy74) 519 (by decide +kernel) rfl
set_option maxRecDepth 100000 in
theorem zmk_HummingSetLaw_33 : zmm "HummingSetLaw" 33 zy74 := Or.inl (zmW 517 (by decide +kernel) rfl)
set_option maxRecDepth 100000 in
theorem zca129 : zcal 129 2 := ⟨by decide +kernel, zcw129, by decide +kernel, by decide +kernel, zmW (w := Cond.initialized "HummingSetModel") 15 (by decide +kernel) rfl⟩
set_option maxRecDepth 100000 in
theorem zin129 : Cond.instanceMethod (zy 129) ∈ zWS := zmW (w := Cond.instanceMethod zy129) 970 (by decide +kernel) rfl
set_option maxRecDepth 100000 in
theorem zse129 : Cond.selects zC12 (zy 129) (zy 129) ∈ zWS := zmW (w := Cond.selects zC12 zy129 zy129) 971 (by decide +kernel) rfl
set_option maxRecDepth 100000 in
theorem zmk_HummingSetLaw_37 : zmm "HummingSetLaw" 37 zy129 := Or.inl (zmW 969 (by decide +kernel) rfl)
set_option maxRecDepth 100000 in
theorem zca75 : zcal 75 3 := ⟨by decide +kernel, zcw75, by decide +kernel, by decide +kernel, zmW (w := Cond.initialized "HummingSet") 1 (by decide +kernel) rfl⟩
set_option maxRecDepth 100000 in
theorem zin75 : Cond.instanceMethod (zy 75) ∈ zWS := zmW (w := Cond.instanceMethod zy75) 523 (by decide +kernel) rfl
set_option maxRecDepth 100000 in
theorem zse75 : Cond.selects zC11 (zy 75) (zy 75) ∈ zWS := zmW (w := Cond.selects zC11 zy75 zy75) 524 (by decide +kernel) rfl
set_option maxRecDepth 100000 in
theorem zmk_HummingSetLaw_38 : zmm "HummingSetLaw" 38 zy75 := Or.inl (zmW 522 (by decide +kernel) rfl)
set_option maxRecDepth 100000 in
theorem zca134 : zcal 134 3 := ⟨by decide +kernel, zcw134, by decide +kernel, by decide +kernel, zmW (w := Cond.initialized "HummingSetModel") 15 (by decide +kernel) rfl⟩
set_option maxRecDepth 100000 in
theorem zin134 : Cond.instanceMethod (zy 134) ∈ zWS := zmW (w := Cond.instanceMethod zy134) 979 (by decide +kernel) rfl
set_option maxRecDepth 100000 in
theorem zse134 : Cond.selects zC12 (zy 134) (zy 134) ∈ zWS := zmW (w := Cond.selects zC12 zy134 zy134) 980 (by decide +kernel) rfl
set_option maxRecDepth 100000 in
theorem zmk_HummingSetLaw_42 : zmm "HummingSetLaw" 42 zy134 := Or.inl (zmW 978 (by decide +kernel) rfl)
set_option maxRecDepth 100000 in
theorem zca76 : zcal 76 4 := ⟨by decide +kernel, zcw76, by decide +kernel, by decide +kernel, zmW (w := Cond.initialized "HummingSet") 1 (by decide +kernel) rfl⟩
set_option maxRecDepth 100000 in
theorem zin76 : Cond.instanceMethod (zy 76) ∈ zWS := zmW (w := Cond.instanceMethod zy76) 534 (by decide +kernel) rfl
set_option maxRecDepth 100000 in
theorem zse76 : Cond.selects zC11 (zy 76) (zy 76) ∈ zWS := zmW (w := Cond.selects zC11 zy76 zy76) 535 (by decide +kernel) rfl
set_option maxRecDepth 100000 in
theorem zmk_HummingSetLaw_43 : zmm "HummingSetLaw" 43 zy76 := Or.inl (zmW 533 (by decide +kernel) rfl)
set_option maxRecDepth 100000 in
theorem zca135 : zcal 135 4 := ⟨by decide +kernel, zcw135, by decide +kernel, by decide +kernel, zmW (w := Cond.initialized "HummingSetModel") 15 (by decide +kernel) rfl⟩
set_option maxRecDepth 100000 in
theorem zin135 : Cond.instanceMethod (zy 135) ∈ zWS := zmW (w := Cond.instanceMethod zy135) 1002 (by decide +kernel) rfl
set_option maxRecDepth 100000 in
theorem zse135 : Cond.selects zC12 (zy 135) (zy 135) ∈ zWS := zmW (w := Cond.selects zC12 zy135 zy135) 1003 (by decide +kernel) rfl
set_option maxRecDepth 100000 in
theorem zmk_HummingSetLaw_47 : zmm "HummingSetLaw" 47 zy135 := Or.inl (zmW 1001 (by decide +kernel) rfl)
set_option maxRecDepth 100000 in
theorem zca77 : zcal 77 3 := ⟨by decide +kernel, zcw77, by decide +kernel, by decide +kernel, zmW (w := Cond.initialized "HummingSet") 1 (by decide +kernel) rfl⟩
set_option maxRecDepth 100000 in
theorem zin77 : Cond.instanceMethod (zy 77) ∈ zWS := zmW (w := Cond.instanceMethod zy77) 539 (by decide +kernel) rfl
set_option maxRecDepth 100000 in
theorem zse77 : Cond.selects zC11 (zy 77) (zy 77) ∈ zWS := zmW (w := Cond.selects zC11 zy77 zy77) 540 (by decide +kernel) rfl
set_option maxRecDepth 100000 in
theorem zmk_HummingSetLaw_48 : zmm "HummingSetLaw" 48 zy77 := Or.inl (zmW 538 (by decide +kernel) rfl)
set_option maxRecDepth 100000 in
theorem zca136 : zcal 136 3 := ⟨by decide +kernel, zcw136, by decide +kernel, by decide +kernel, zmW (w := Cond.initialized "HummingSetModel") 15 (by decide +kernel) rfl⟩
set_option maxRecDepth 100000 in
theorem zin136 : Cond.instanceMethod (zy 136) ∈ zWS := zmW (w := Cond.instanceMethod zy136) 1010 (by decide +kernel) rfl
set_option maxRecDepth 100000 in
theorem zse136 : Cond.selects zC12 (zy 136) (zy 136) ∈ zWS := zmW (w := Cond.selects zC12 zy136 zy136) 1011 (by decide +kernel) rfl
set_option maxRecDepth 100000 in
theorem zmk_HummingSetLaw_51 : zmm "HummingSetLaw" 51 zy136 := Or.inl (zmW 1009 (by decide +kernel) rfl)
set_option maxRecDepth 100000 in
theorem zca78 : zcal 78 4 := ⟨by decide +kernel, zcw78, by decide +kernel, by decide +kernel, zmW (w := Cond.initialized "HummingSet") 1 (by decide +kernel) rfl⟩
set_option maxRecDepth 100000 in
theorem zin78 : Cond.instanceMethod (zy 78) ∈ zWS := zmW (w := Cond.instanceMethod zy78) 548 (by decide +kernel) rfl
set_option maxRecDepth 100000 in
theorem zse78 : Cond.selects zC11 (zy 78) (zy 78) ∈ zWS := zmW (w := Cond.selects zC11 zy78 zy78) 549 (by decide +kernel) rfl
set_option maxRecDepth 100000 in
theorem zmk_HummingSetLaw_52 : zmm "HummingSetLaw" 52 zy78 := Or.inl (zmW 547 (by decide +kernel) rfl)
set_option maxRecDepth 100000 in
theorem zca139 : zcal 139 4 := ⟨by decide +kernel, zcw139, by decide +kernel, by decide +kernel, zmW (w := Cond.initialized "HummingSetModel") 15 (by decide +kernel) rfl⟩
set_option maxRecDepth 100000 in
theorem zin139 : Cond.instanceMethod (zy 139) ∈ zWS := zmW (w := Cond.instanceMethod zy139) 1021 (by decide +kernel) rfl
set_option maxRecDepth 100000 in
theorem zse139 : Cond.selects zC12 (zy 139) (zy 139) ∈ zWS := zmW (w := Cond.selects zC12 zy139 zy139) 1022 (by decide +kernel) rfl
set_option maxRecDepth 100000 in
theorem zmk_HummingSetLaw_55 : zmm "HummingSetLaw" 55 zy139 := Or.inl (zmW 1020 (by decide +kernel) rfl)
set_option maxRecDepth 100000 in
theorem zca79 : zcal 79 2 := ⟨by decide +kernel, zcw79, by decide +kernel, by decide +kernel, zmW (w := Cond.initialized "HummingSet") 1 (by decide +kernel) rfl⟩
set_option maxRecDepth 100000 in
theorem zin79 : Cond.instanceMethod (zy 79) ∈ zWS := zmW (w := Cond.instanceMethod zy79) 561 (by decide +kernel) rfl
set_option maxRecDepth 100000 in
theorem zse79 : Cond.selects zC11 (zy 79) (zy 79) ∈ zWS := zmW (w := Cond.selects zC11 zy79 zy79) 562 (by decide +kernel) rfl
set_option maxRecDepth 100000 in
theorem zmk_HummingSetLaw_56 : zmm "HummingSetLaw" 56 zy79 := Or.inl (zmW 560 (by decide +kernel) rfl)
set_option maxRecDepth 100000 in
theorem zca141 : zcal 141 2 := ⟨by decide +kernel, zcw141, by decide +kernel, by decide +kernel, zmW (w := Cond.initialized "HummingSetModel") 15 (by decide +kernel) rfl⟩
set_option maxRecDepth 100000 in
theorem zin141 : Cond.instanceMethod (zy 141) ∈ zWS := zmW (w := Cond.instanceMethod zy141) 1033 (by decide +kernel) rfl
set_option maxRecDepth 100000 in
theorem zse141 : Cond.selects zC12 (zy 141) (zy 141) ∈ zWS := zmW (w := Cond.selects zC12 zy141 zy141) 1034 (by decide +kernel) rfl
set_option maxRecDepth 100000 in
theorem zmk_HummingSetLaw_59 : zmm "HummingSetLaw" 59 zy141 := Or.inl (zmW 1032 (by decide +kernel) rfl)
set_option maxRecDepth 100000 in
theorem zca80 : zcal 80 2 := ⟨by decide +kernel, zcw80, by decide +kernel, by decide +kernel, zmW (w := Cond.initialized "HummingSet") 1 (by decide +kernel) rfl⟩
set_option maxRecDepth 100000 in
theorem zin80 : Cond.instanceMethod (zy 80) ∈ zWS := zmW (w := Cond.instanceMethod zy80) 577 (by decide +kernel) rfl
set_option maxRecDepth 100000 in
theorem zse80 : Cond.selects zC11 (zy 80) (zy 80) ∈ zWS := zmW (w := Cond.selects zC11 zy80 zy80) 578 (by decide +kernel) rfl
set_option maxRecDepth 100000 in
theorem zmk_HummingSetLaw_60 : zmm "HummingSetLaw" 60 zy80 := Or.inl (zmW 576 (by decide +kernel) rfl)
set_option maxRecDepth 100000 in
theorem zca143 : zcal 143 2 := ⟨by decide +kernel, zcw143, by decide +kernel, by decide +kernel, zmW (w := Cond.initialized "HummingSetModel") 15 (by decide +kernel) rfl⟩
set_option maxRecDepth 100000 in
theorem zin143 : Cond.instanceMethod (zy 143) ∈ zWS := zmW (w := Cond.instanceMethod zy143) 1041 (by decide +kernel) rfl
set_option maxRecDepth 100000 in
theorem zse143 : Cond.selects zC12 (zy 143) (zy 143) ∈ zWS := zmW (w := Cond.selects zC12 zy143 zy143) 1042 (by decide +kernel) rfl
set_option maxRecDepth 100000 in
theorem zmk_HummingSetLaw_63 : zmm "HummingSetLaw" 63 zy143 := Or.inl (zmW 1040 (by decide +kernel) rfl)
set_option maxRecDepth 100000 in
theorem zca81 : zcal 81 0 := ⟨by decide +kernel, zcw81, by decide +kernel, by decide +kernel, zmW (w := Cond.initialized "HummingSet") 1 (by decide +kernel) rfl⟩
set_option maxRecDepth 100000 in
theorem zin81 : Cond.instanceMethod (zy 81) ∈ zWS := zmW (w := Cond.instanceMethod zy81) 592 (by decide +kernel) rfl
set_option maxRecDepth 100000 in
theorem zse81 : Cond.selects zC11 (zy 81) (zy 81) ∈ zWS := zmW (w := Cond.selects zC11 zy81 zy81) 593 (by decide +kernel) rfl
set_option maxRecDepth 100000 in
theorem zmk_HummingSetLaw_64 : zmm "HummingSetLaw" 64 zy81 := Or.inl (zmW 591 (by decide +kernel) rfl)
set_option maxRecDepth 100000 in
theorem zca144 : zcal 144 0 := ⟨by decide +kernel, zcw144, by decide +kernel, by decide +kernel, zmW (w := Cond.initialized "HummingSetModel") 15 (by decide +kernel) rfl⟩
set_option maxRecDepth 100000 in
theorem zin144 : Cond.instanceMethod (zy 144) ∈ zWS := zmW (w := Cond.instanceMethod zy144) 1049 (by decide +kernel) rfl
set_option maxRecDepth 100000 in
theorem zse144 : Cond.selects zC12 (zy 144) (zy 144) ∈ zWS := zmW (w := Cond.selects zC12 zy144 zy144) 1050 (by decide +kernel) rfl
set_option maxRecDepth 100000 in
theorem zmk_HummingSetLaw_67 : zmm "HummingSetLaw" 67 zy144 := Or.inl (zmW 1048 (by decide +kernel) rfl)
set_option maxRecDepth 100000 in
theorem zca82 : zcal 82 4 := ⟨by decide +kernel, zcw82, by decide +kernel, by decide +kernel, zmW (w := Cond.initialized "HummingSet") 1 (by decide +kernel) rfl⟩
set_option maxRecDepth 100000 in
theorem zin82 : Cond.instanceMethod (zy 82) ∈ zWS := zmW (w := Cond.instanceMethod zy82) 605 (by decide +kernel) rfl
set_option maxRecDepth 100000 in
theorem zse82 : Cond.selects zC11 (zy 82) (zy 82) ∈ zWS := zmW (w := Cond.selects zC11 zy82 zy82) 606 (by decide +kernel) rfl
set_option maxRecDepth 100000 in
theorem zmk_HummingSetLaw_68 : zmm "HummingSetLaw" 68 zy82 := Or.inl (zmW 604 (by decide +kernel) rfl)
set_option maxRecDepth 100000 in
theorem zca150 : zcal 150 4 := ⟨by decide +kernel, zcw150, by decide +kernel, by decide +kernel, zmW (w := Cond.initialized "HummingSetModel") 15 (by decide +kernel) rfl⟩
set_option maxRecDepth 100000 in
theorem zin150 : Cond.instanceMethod (zy 150) ∈ zWS := zmW (w := Cond.instanceMethod zy150) 1053 (by decide +kernel) rfl
set_option maxRecDepth 100000 in
theorem zse150 : Cond.selects zC12 (zy 150) (zy 150) ∈ zWS := zmW (w := Cond.selects zC12 zy150 zy150) 1054 (by decide +kernel) rfl
set_option maxRecDepth 100000 in
theorem zmk_HummingSetLaw_71 : zmm "HummingSetLaw" 71 zy150 := Or.inl (zmW 1052 (by decide +kernel) rfl)
set_option maxRecDepth 100000 in
theorem zca83 : zcal 83 0 := ⟨by decide +kernel, zcw83, by decide +kernel, by decide +kernel, zmW (w := Cond.initialized "HummingSet") 1 (by decide +kernel) rfl⟩
set_option maxRecDepth 100000 in
theorem zin83 : Cond.instanceMethod (zy 83) ∈ zWS := zmW (w := Cond.instanceMethod zy83) 613 (by decide +kernel) rfl
set_option maxRecDepth 100000 in
theorem zse83 : Cond.selects zC11 (zy 83) (zy 83) ∈ zWS := zmW (w := Cond.selects zC11 zy83 zy83) 614 (by decide +kernel) rfl
set_option maxRecDepth 100000 in
theorem zmk_HummingSetLaw_72 : zmm "HummingSetLaw" 72 zy83 := Or.inl (zmW 612 (by decide +kernel) rfl)
set_option maxRecDepth 100000 in
theorem zca151 : zcal 151 0 := ⟨by decide +kernel, zcw151, by decide +kernel, by decide +kernel, zmW (w := Cond.initialized "HummingSetModel") 15 (by decide +kernel) rfl⟩
set_option maxRecDepth 100000 in
theorem zin151 : Cond.instanceMethod (zy 151) ∈ zWS := zmW (w := Cond.instanceMethod zy151) 1057 (by decide +kernel) rfl
set_option maxRecDepth 100000 in
theorem zse151 : Cond.selects zC12 (zy 151) (zy 151) ∈ zWS := zmW (w := Cond.selects zC12 zy151 zy151) 1058 (by decide +kernel) rfl
set_option maxRecDepth 100000 in
theorem zmk_HummingSetLaw_75 : zmm "HummingSetLaw" 75 zy151 := Or.inl (zmW 1056 (by decide +kernel) rfl)
set_option maxRecDepth 100000 in
theorem zca84 : zcal 84 1 := ⟨by decide +kernel, zcw84, by decide +kernel, by decide +kernel, zmW (w := Cond.initialized "HummingSet") 1 (by decide +kernel) rfl⟩
set_option maxRecDepth 100000 in
theorem zin84 : Cond.instanceMethod (zy 84) ∈ zWS := zmW (w := Cond.instanceMethod zy84) 617 (by decide +kernel) rfl
set_option maxRecDepth 100000 in
theorem zse84 : Cond.selects zC11 (zy 84) (zy 84) ∈ zWS := zmW (w := Cond.selects zC11 zy84 zy84) 618 (by decide +kernel) rfl
set_option maxRecDepth 100000 in
theorem zmk_HummingSetLaw_76 : zmm "HummingSetLaw" 76 zy84 := Or.inl (zmW 616 (by decide +kernel) rfl)
set_option maxRecDepth 100000 in
theorem zca152 : zcal 152 1 := ⟨by decide +kernel, zcw152, by decide +kernel, by decide +kernel, zmW (w := Cond.initialized "HummingSetModel") 15 (by decide +kernel) rfl⟩
set_option maxRecDepth 100000 in
theorem zin152 : Cond.instanceMethod (zy 152) ∈ zWS := zmW (w := Cond.instanceMethod zy152) 1061 (by decide +kernel) rfl
set_option maxRecDepth 100000 in
theorem zse152 : Cond.selects zC12 (zy 152) (zy 152) ∈ zWS := zmW (w := Cond.selects zC12 zy152 zy152) 1062 (by decide +kernel) rfl
set_option maxRecDepth 100000 in
theorem zmk_HummingSetLaw_80 : zmm "HummingSetLaw" 80 zy152 := Or.inl (zmW 1060 (by decide +kernel) rfl)
set_option maxRecDepth 100000 in
theorem zca85 : zcal 85 2 := ⟨by decide +kernel, zcw85, by decide +kernel, by decide +kernel, zmW (w := Cond.initialized "HummingSet") 1 (by decide +kernel) rfl⟩
set_option maxRecDepth 100000 in
theorem zin85 : Cond.instanceMethod (zy 85) ∈ zWS := zmW (w := Cond.instanceMethod zy85) 622 (by decide +kernel) rfl
set_option maxRecDepth 100000 in
theorem zse85 : Cond.selects zC11 (zy 85) (zy 85) ∈ zWS := zmW (w := Cond.selects zC11 zy85 zy85) 623 (by decide +kernel) rfl
set_option maxRecDepth 100000 in
theorem zmk_HummingSetLaw_81 : zmm "HummingSetLaw" 81 zy85 := Or.inl (zmW 621 (by decide +kernel) rfl)
set_option maxRecDepth 100000 in
theorem zca154 : zcal 154 2 := ⟨by decide +kernel, zcw154, by decide +kernel, by decide +kernel, zmW (w := Cond.initialized "HummingSetModel") 15 (by decide +kernel) rfl⟩
set_option maxRecDepth 100000 in
theorem zin154 : Cond.instanceMethod (zy 154) ∈ zWS := zmW (w := Cond.instanceMethod zy154) 1085 (by decide +kernel) rfl
set_option maxRecDepth 100000 in
theorem zse154 : Cond.selects zC12 (zy 154) (zy 154) ∈ zWS := zmW (w := Cond.selects zC12 zy154 zy154) 1086 (by decide +kernel) rfl
set_option maxRecDepth 100000 in
theorem zmk_HummingSetLaw_85 : zmm "HummingSetLaw" 85 zy154 := Or.inl (zmW 1084 (by decide +kernel) rfl)
set_option maxRecDepth 100000 in
theorem zca86 : zcal 86 0 := ⟨by decide +kernel, zcw86, by decide +kernel, by decide +kernel, zmW (w := Cond.initialized "HummingSet") 1 (by decide +kernel) rfl⟩
set_option maxRecDepth 100000 in
theorem zin86 : Cond.instanceMethod (zy 86) ∈ zWS := zmW (w := Cond.instanceMethod zy86) 634 (by decide +kernel) rfl
set_option maxRecDepth 100000 in
theorem zse86 : Cond.selects zC11 (zy 86) (zy 86) ∈ zWS := zmW (w := Cond.selects zC11 zy86 zy86) 635 (by decide +kernel) rfl
set_option maxRecDepth 100000 in
theorem zmk_HummingSetLaw_86 : zmm "HummingSetLaw" 86 zy86 := Or.inl (zmW 633 (by decide +kernel) rfl)
set_option maxRecDepth 100000 in
theorem zca155 : zcal 155 0 := ⟨by decide +kernel, zcw155, by decide +kernel, by decide +kernel, zmW (w := Cond.initialized "HummingSetModel") 15 (by decide +kernel) rfl⟩
set_option maxRecDepth 100000 in
theorem zin155 : Cond.instanceMethod (zy 155) ∈ zWS := zmW (w := Cond.instanceMethod zy155) 1093 (by decide +kernel) rfl
set_option maxRecDepth 100000 in
theorem zse155 : Cond.selects zC12 (zy 155) (zy 155) ∈ zWS := zmW (w := Cond.selects zC12 zy155 zy155) 1094 (by decide +kernel) rfl
set_option maxRecDepth 100000 in
theorem zmk_HummingSetLaw_89 : zmm "HummingSetLaw" 89 zy155 := Or.inl (zmW 1092 (by decide +kernel) rfl)
set_option maxRecDepth 100000 in
theorem zca87 : zcal 87 2 := ⟨by decide +kernel, zcw87, by decide +kernel, by decide +kernel, zmW (w := Cond.initialized "HummingSet") 1 (by decide +kernel) rfl⟩
set_option maxRecDepth 100000 in
theorem zin87 : Cond.instanceMethod (zy 87) ∈ zWS := zmW (w := Cond.instanceMethod zy87) 642 (by decide +kernel) rfl
set_option maxRecDepth 100000 in
theorem zse87 : Cond.selects zC11 (zy 87) (zy 87) ∈ zWS := zmW (w := Cond.selects zC11 zy87 zy87) 643 (by decide +kernel) rfl
set_option maxRecDepth 100000 in
theorem zmk_HummingSetLaw_90 : zmm "HummingSetLaw" 90 zy87 := Or.inl (zmW 641 (by decide +kernel) rfl)
set_option maxRecDepth 100000 in
theorem zca158 : zcal 158 2 := ⟨by decide +kernel, zcw158, by decide +kernel, by decide +kernel, zmW (w := Cond.initialized "HummingSetModel") 15 (by decide +kernel) rfl⟩
set_option maxRecDepth 100000 in
theorem zin158 : Cond.instanceMethod (zy 158) ∈ zWS := zmW (w := Cond.instanceMethod zy158) 1097 (by decide +kernel) rfl
set_option maxRecDepth 100000 in
theorem zse158 : Cond.selects zC12 (zy 158) (zy 158) ∈ zWS := zmW (w := Cond.selects zC12 zy158 zy158) 1098 (by decide +kernel) rfl
set_option maxRecDepth 100000 in
theorem zmk_HummingSetLaw_93 : zmm "HummingSetLaw" 93 zy158 := Or.inl (zmW 1096 (by decide +kernel) rfl)
set_option maxRecDepth 100000 in
theorem zca88 : zcal 88 2 := ⟨by decide +kernel, zcw88, by decide +kernel, by decide +kernel, zmW (w := Cond.initialized "HummingSet") 1 (by decide +kernel) rfl⟩
set_option maxRecDepth 100000 in
theorem zin88 : Cond.instanceMethod (zy 88) ∈ zWS := zmW (w := Cond.instanceMethod zy88) 670 (by decide +kernel) rfl
set_option maxRecDepth 100000 in
theorem zse88 : Cond.selects zC11 (zy 88) (zy 88) ∈ zWS := zmW (w := Cond.selects zC11 zy88 zy88) 671 (by decide +kernel) rfl
set_option maxRecDepth 100000 in
theorem zmk_HummingSetLaw_94 : zmm "HummingSetLaw" 94 zy88 := Or.inl (zmW 669 (by decide +kernel) rfl)
set_option maxRecDepth 100000 in
theorem zca161 : zcal 161 2 := ⟨by decide +kernel, zcw161, by decide +kernel, by decide +kernel, zmW (w := Cond.initialized "HummingSetModel") 15 (by decide +kernel) rfl⟩
set_option maxRecDepth 100000 in
theorem zin161 : Cond.instanceMethod (zy 161) ∈ zWS := zmW (w := Cond.instanceMethod zy161) 1108 (by decide +kernel) rfl
set_option maxRecDepth 100000 in
theorem zse161 : Cond.selects zC12 (zy 161) (zy 161) ∈ zWS := zmW (w := Cond.selects zC12 zy161 zy161) 1109 (by decide +kernel) rfl
set_option maxRecDepth 100000 in
theorem zmk_HummingSetLaw_97 : zmm "HummingSetLaw" 97 zy161 := Or.inl (zmW 1107 (by decide +kernel) rfl)
set_option maxRecDepth 100000 in
theorem zca89 : zcal 89 1 := ⟨by decide +kernel, zcw89, by decide +kernel, by decide +kernel, zmW (w := Cond.initialized "HummingSet") 1 (by decide +kernel) rfl⟩
set_option maxRecDepth 100000 in
theorem zin89 : Cond.instanceMethod (zy 89) ∈ zWS := zmW (w := Cond.instanceMethod zy89) 688 (by decide +kernel) rfl
set_option maxRecDepth 100000 in
theorem zse89 : Cond.selects zC11 (zy 89) (zy 89) ∈ zWS := zmW (w := Cond.selects zC11 zy89 zy89) 689 (by decide +kernel) rfl
set_option maxRecDepth 100000 in
theorem zmk_HummingSetLaw_98 : zmm "HummingSetLaw" 98 zy89 := Or.inl (zmW 687 (by decide +kernel) rfl)
set_option maxRecDepth 100000 in
theorem zca164 : zcal 164 1 := ⟨by decide +kernel, zcw164, by decide +kernel, by decide +kernel, zmW (w := Cond.initialized "HummingSetModel") 15 (by decide +kernel) rfl⟩
set_option maxRecDepth 100000 in
theorem zin164 : Cond.instanceMethod (zy 164) ∈ zWS := zmW (w := Cond.instanceMethod zy164) 1121 (by decide +kernel) rfl
set_option maxRecDepth 100000 in
theorem zse164 : Cond.selects zC12 (zy 164) (zy 164) ∈ zWS := zmW (w := Cond.selects zC12 zy164 zy164) 1122 (by decide +kernel) rfl
set_option maxRecDepth 100000 in
theorem zmk_HummingSetLaw_101 : zmm "HummingSetLaw" 101 zy164 := Or.inl (zmW 1120 (by decide +kernel) rfl)
set_option maxRecDepth 100000 in
theorem zca90 : zcal 90 1 := ⟨by decide +kernel, zcw90, by decide +kernel, by decide +kernel, zmW (w := Cond.initialized "HummingSet") 1 (by decide +kernel) rfl⟩
set_option maxRecDepth 100000 in
theorem zin90 : Cond.instanceMethod (zy 90) ∈ zWS := zmW (w := Cond.instanceMethod zy90) 701 (by decide +kernel) rfl
set_option maxRecDepth 100000 in
theorem zse90 : Cond.selects zC11 (zy 90) (zy 90) ∈ zWS := zmW (w := Cond.selects zC11 zy90 zy90) 702 (by decide +kernel) rfl
set_option maxRecDepth 100000 in
theorem zmk_HummingSetLaw_102 : zmm "HummingSetLaw" 102 zy90 := Or.inl (zmW 700 (by decide +kernel) rfl)
set_option maxRecDepth 100000 in
theorem zca165 : zcal 165 1 := ⟨by decide +kernel, zcw165, by decide +kernel, by decide +kernel, zmW (w := Cond.initialized "HummingSetModel") 15 (by decide +kernel) rfl⟩
set_option maxRecDepth 100000 in
theorem zin165 : Cond.instanceMethod (zy 165) ∈ zWS := zmW (w := Cond.instanceMethod zy165) 1133 (by decide +kernel) rfl
set_option maxRecDepth 100000 in
theorem zse165 : Cond.selects zC12 (zy 165) (zy 165) ∈ zWS := zmW (w := Cond.selects zC12 zy165 zy165) 1134 (by decide +kernel) rfl
set_option maxRecDepth 100000 in
theorem zmk_HummingSetLaw_106 : zmm "HummingSetLaw" 106 zy165 := Or.inl (zmW 1132 (by decide +kernel) rfl)
set_option maxRecDepth 100000 in
theorem zca91 : zcal 91 0 := ⟨by decide +kernel, zcw91, by decide +kernel, by decide +kernel, zmW (w := Cond.initialized "HummingSet") 1 (by decide +kernel) rfl⟩
set_option maxRecDepth 100000 in
theorem zin91 : Cond.instanceMethod (zy 91) ∈ zWS := zmW (w := Cond.instanceMethod zy91) 709 (by decide +kernel) rfl
set_option maxRecDepth 100000 in
theorem zse91 : Cond.selects zC11 (zy 91) (zy 91) ∈ zWS := zmW (w := Cond.selects zC11 zy91 zy91) 710 (by decide +kernel) rfl
set_option maxRecDepth 100000 in
theorem zmk_HummingSetLaw_107 : zmm "HummingSetLaw" 107 zy91 := Or.inl (zmW 708 (by decide +kernel) rfl)
set_option maxRecDepth 100000 in
theorem zca166 : zcal 166 0 := ⟨by decide +kernel, zcw166, by decide +kernel, by decide +kernel, zmW (w := Cond.initialized "HummingSetModel") 15 (by decide +kernel) rfl⟩
set_option maxRecDepth 100000 in
theorem zin166 : Cond.instanceMethod (zy 166) ∈ zWS := zmW (w := Cond.instanceMethod zy166) 1141 (by decide +kernel) rfl
set_option maxRecDepth 100000 in
theorem zse166 : Cond.selects zC12 (zy 166) (zy 166) ∈ zWS := zmW (w := Cond.selects zC12 zy166 zy166) 1142 (by decide +kernel) rfl
set_option maxRecDepth 100000 in
theorem zmk_HummingSetLaw_110 : zmm "HummingSetLaw" 110 zy166 := Or.inl (zmW 1140 (by decide +kernel) rfl)
set_option maxRecDepth 100000 in
theorem zca92 : zcal 92 2 := ⟨by decide +kernel, zcw92, by decide +kernel, by decide +kernel, zmW (w := Cond.initialized "HummingSet") 1 (by decide +kernel) rfl⟩
set_option maxRecDepth 100000 in
theorem zin92 : Cond.instanceMethod (zy 92) ∈ zWS := zmW (w := Cond.instanceMethod zy92) 723 (by decide +kernel) rfl
set_option maxRecDepth 100000 in
theorem zse92 : Cond.selects zC11 (zy 92) (zy 92) ∈ zWS := zmW (w := Cond.selects zC11 zy92 zy92) 724 (by decide +kernel) rfl
set_option maxRecDepth 100000 in
theorem zmk_HummingSetLaw_111 : zmm "HummingSetLaw" 111 zy92 := Or.inl (zmW 722 (by decide +kernel) rfl)
set_option maxRecDepth 100000 in
theorem zca168 : zcal 168 2 := ⟨by decide +kernel, zcw168, by decide +kernel, by decide +kernel, zmW (w := Cond.initialized "HummingSetModel") 15 (by decide +kernel) rfl⟩
set_option maxRecDepth 100000 in
theorem zin168 : Cond.instanceMethod (zy 168) ∈ zWS := zmW (w := Cond.instanceMethod zy168) 1146 (by decide +kernel) rfl
set_option maxRecDepth 100000 in
theorem zse168 : Cond.selects zC12 (zy 168) (zy 168) ∈ zWS := zmW (w := Cond.selects zC12 zy168 zy168) 1147 (by decide +kernel) rfl
set_option maxRecDepth 100000 in
theorem zmk_HummingSetLaw_114 : zmm "HummingSetLaw" 114 zy168 := Or.inl (zmW 1145 (by decide +kernel) rfl)
set_option maxRecDepth 100000 in
theorem zca93 : zcal 93 1 := ⟨by decide +kernel, zcw93, by decide +kernel, by decide +kernel, zmW (w := Cond.initialized "HummingSet") 1 (by decide +kernel) rfl⟩
set_option maxRecDepth 100000 in
theorem zin93 : Cond.instanceMethod (zy 93) ∈ zWS := zmW (w := Cond.instanceMethod zy93) 733 (by decide +kernel) rfl
set_option maxRecDepth 100000 in
theorem zse93 : Cond.selects zC11 (zy 93) (zy 93) ∈ zWS := zmW (w := Cond.selects zC11 zy93 zy93) 734 (by decide +kernel) rfl
set_option maxRecDepth 100000 in
theorem zmk_HummingSetLaw_115 : zmm "HummingSetLaw" 115 zy93 := Or.inl (zmW 732 (by decide +kernel) rfl)
set_option maxRecDepth 100000 in
theorem zca169 : zcal 169 1 := ⟨by decide +kernel, zcw169, by decide +kernel, by decide +kernel, zmW (w := Cond.initialized "HummingSetModel") 15 (by decide +kernel) rfl⟩
set_option maxRecDepth 100000 in
theorem zin169 : Cond.instanceMethod (zy 169) ∈ zWS := zmW (w := Cond.instanceMethod zy169) 1156 (by decide +kernel) rfl
set_option maxRecDepth 100000 in
theorem zse169 : Cond.selects zC12 (zy 169) (zy 169) ∈ zWS := zmW (w := Cond.selects zC12 zy169 zy169) 1157 (by decide +kernel) rfl
set_option maxRecDepth 100000 in
theorem zmk_HummingSetLaw_118 : zmm "HummingSetLaw" 118 zy169 := Or.inl (zmW 1155 (by decide +kernel) rfl)
set_option maxRecDepth 100000 in
theorem zca94 : zcal 94 1 := ⟨by decide +kernel, zcw94, by decide +kernel, by decide +kernel, zmW (w := Cond.initialized "HummingSet") 1 (by decide +kernel) rfl⟩
set_option maxRecDepth 100000 in
theorem zin94 : Cond.instanceMethod (zy 94) ∈ zWS := zmW (w := Cond.instanceMethod zy94) 737 (by decide +kernel) rfl
set_option maxRecDepth 100000 in
theorem zse94 : Cond.selects zC11 (zy 94) (zy 94) ∈ zWS := zmW (w := Cond.selects zC11 zy94 zy94) 738 (by decide +kernel) rfl
set_option maxRecDepth 100000 in
theorem zmk_HummingSetLaw_119 : zmm "HummingSetLaw" 119 zy94 := Or.inl (zmW 736 (by decide +kernel) rfl)
set_option maxRecDepth 100000 in
theorem zca170 : zcal 170 1 := ⟨by decide +kernel, zcw170, by decide +kernel, by decide +kernel, zmW (w := Cond.initialized "HummingSetModel") 15 (by decide +kernel) rfl⟩
set_option maxRecDepth 100000 in
theorem zin170 : Cond.instanceMethod (zy 170) ∈ zWS := zmW (w := Cond.instanceMethod zy170) 1160 (by decide +kernel) rfl
set_option maxRecDepth 100000 in
theorem zse170 : Cond.selects zC12 (zy 170) (zy 170) ∈ zWS := zmW (w := Cond.selects zC12 zy170 zy170) 1161 (by decide +kernel) rfl
set_option maxRecDepth 100000 in
theorem zmk_HummingSetLaw_122 : zmm "HummingSetLaw" 122 zy170 := Or.inl (zmW 1159 (by decide +kernel) rfl)
set_option maxRecDepth 100000 in
theorem zca95 : zcal 95 0 := ⟨by decide +kernel, zcw95, by decide +kernel, by decide +kernel, zmW (w := Cond.initialized "HummingSet") 1 (by decide +kernel) rfl⟩
set_option maxRecDepth 100000 in
theorem zin95 : Cond.instanceMethod (zy 95) ∈ zWS := zmW (w := Cond.instanceMethod zy95) 745 (by decide +kernel) rfl
set_option maxRecDepth 100000 in
theorem zse95 : Cond.selects zC11 (zy 95) (zy 95) ∈ zWS := zmW (w := Cond.selects zC11 zy95 zy95) 746 (by decide +kernel) rfl
set_option maxRecDepth 100000 in
theorem zmk_HummingSetLaw_123 : zmm "HummingSetLaw" 123 zy95 := Or.inl (zmW 744 (by decide +kernel) rfl)
set_option maxRecDepth 100000 in
theorem zca172 : zcal 172 0 := ⟨by decide +kernel, zcw172, by decide +kernel, by decide +kernel, zmW (w := Cond.initialized "HummingSetModel") 15 (by decide +kernel) rfl⟩
set_option maxRecDepth 100000 in
theorem zin172 : Cond.instanceMethod (zy 172) ∈ zWS := zmW (w := Cond.instanceMethod zy172) 1168 (by decide +kernel) rfl
set_option maxRecDepth 100000 in
theorem zse172 : Cond.selects zC12 (zy 172) (zy 172) ∈ zWS := zmW (w := Cond.selects zC12 zy172 zy172) 1169 (by decide +kernel) rfl
set_option maxRecDepth 100000 in
theorem zmk_HummingSetLaw_126 : zmm "HummingSetLaw" 126 zy172 := Or.inl (zmW 1167 (by decide +kernel) rfl)
set_option maxRecDepth 100000 in
theorem zca96 : zcal 96 0 := ⟨by decide +kernel, zcw96, by decide +kernel, by decide +kernel, zmW (w := Cond.initialized "HummingSet") 1 (by decide +kernel) rfl⟩
set_option maxRecDepth 100000 in
theorem zin96 : Cond.instanceMethod (zy 96) ∈ zWS := zmW (w := Cond.instanceMethod zy96) 754 (by decide +kernel) rfl
set_option maxRecDepth 100000 in
theorem zse96 : Cond.selects zC11 (zy 96) (zy 96) ∈ zWS := zmW (w := Cond.selects zC11 zy96 zy96) 755 (by decide +kernel) rfl
set_option maxRecDepth 100000 in
theorem zmk_HummingSetLaw_127 : zmm "HummingSetLaw" 127 zy96 := Or.inl (zmW 753 (by decide +kernel) rfl)
set_option maxRecDepth 100000 in
theorem zca173 : zcal 173 0 := ⟨by decide +kernel, zcw173, by decide +kernel, by decide +kernel, zmW (w := Cond.initialized "HummingSetModel") 15 (by decide +kernel) rfl⟩
set_option maxRecDepth 100000 in
theorem zin173 : Cond.instanceMethod (zy 173) ∈ zWS := zmW (w := Cond.instanceMethod zy173) 1176 (by decide +kernel) rfl
set_option maxRecDepth 100000 in
theorem zse173 : Cond.selects zC12 (zy 173) (zy 173) ∈ zWS := zmW (w := Cond.selects zC12 zy173 zy173) 1177 (by decide +kernel) rfl
set_option maxRecDepth 100000 in
theorem zmk_HummingSetLaw_130 : zmm "HummingSetLaw" 130 zy173 := Or.inl (zmW 1175 (by decide +kernel) rfl)
set_option maxRecDepth 100000 in
theorem zca97 : zcal 97 1 := ⟨by decide +kernel, zcw97, by decide +kernel, by decide +kernel, zmW (w := Cond.initialized "HummingSet") 1 (by decide +kernel) rfl⟩
set_option maxRecDepth 100000 in
theorem zin97 : Cond.instanceMethod (zy 97) ∈ zWS := zmW (w := Cond.instanceMethod zy97) 758 (by decide +kernel) rfl
set_option maxRecDepth 100000 in
theorem zse97 : Cond.selects zC11 (zy 97) (zy 97) ∈ zWS := zmW (w := Cond.selects zC11 zy97 zy97) 759 (by decide +kernel) rfl
set_option maxRecDepth 100000 in
theorem zmk_HummingSetLaw_131 : zmm "HummingSetLaw" 131 zy97 := Or.inl (zmW 757 (by decide +kernel) rfl)
set_option maxRecDepth 100000 in
theorem zca174 : zcal 174 1 := ⟨by decide +kernel, zcw174, by decide +kernel, by decide +kernel, zmW (w := Cond.initialized "HummingSetModel") 15 (by decide +kernel) rfl⟩
set_option maxRecDepth 100000 in
theorem zin174 : Cond.instanceMethod (zy 174) ∈ zWS := zmW (w := Cond.instanceMethod zy174) 1180 (by decide +kernel) rfl
set_option maxRecDepth 100000 in
theorem zse174 : Cond.selects zC12 (zy 174) (zy 174) ∈ zWS := zmW (w := Cond.selects zC12 zy174 zy174) 1181 (by decide +kernel) rfl
set_option maxRecDepth 100000 in
theorem zmk_HummingSetLaw_134 : zmm "HummingSetLaw" 134 zy174 := Or.inl (zmW 1179 (by decide +kernel) rfl)
