theorem sk_okQ {w : Cond} (h : w ∈ lw_tbl) (g : goodWord w = true) : sk_wok w = true := by
  unfold sk_wok
  rw [decide_eq_true h, g]
  rfl
theorem sk_t1 {w : Cond} (h : w ∈ tables_1_1) : w ∈ lw_tbl := by
  unfold lw_tbl tables_1
  simp only [List.mem_append]
  exact Or.inr (Or.inl h)
theorem sk_t2 {w : Cond} (h : w ∈ tables_1_2) : w ∈ lw_tbl := by
  unfold lw_tbl tables_1
  simp only [List.mem_append]
  exact Or.inr (Or.inr (Or.inl h))
theorem sk_t3 {w : Cond} (h : w ∈ tables_1_3) : w ∈ lw_tbl := by
  unfold lw_tbl tables_1
  simp only [List.mem_append]
  exact Or.inr (Or.inr (Or.inr (Or.inl h)))
theorem sk_t4 {w : Cond} (h : w ∈ tables_1_4) : w ∈ lw_tbl := by
  unfold lw_tbl tables_1
  simp only [List.mem_append]
  exact Or.inr (Or.inr (Or.inr (Or.inr (Or.inl h))))
theorem sk_t5 {w : Cond} (h : w ∈ tables_1_5) : w ∈ lw_tbl := by
  unfold lw_tbl tables_1
  simp only [List.mem_append]
  exact Or.inr (Or.inr (Or.inr (Or.inr (Or.inr (Or.inl h)))))
theorem sk_t6 {w : Cond} (h : w ∈ tables_1_6) : w ∈ lw_tbl := by
  unfold lw_tbl tables_1
  simp only [List.mem_append]
  exact Or.inr (Or.inr (Or.inr (Or.inr (Or.inr (Or.inr (Or.inl h))))))
theorem sk_t7 {w : Cond} (h : w ∈ tables_1_7) : w ∈ lw_tbl := by
  unfold lw_tbl tables_1
  simp only [List.mem_append]
  exact Or.inr (Or.inr (Or.inr (Or.inr (Or.inr (Or.inr (Or.inr (Or.inl h)))))))
theorem sk_t8 {w : Cond} (h : w ∈ tables_1_8) : w ∈ lw_tbl := by
  unfold lw_tbl tables_1
  simp only [List.mem_append]
  exact Or.inr (Or.inr (Or.inr (Or.inr (Or.inr (Or.inr (Or.inr (Or.inr (Or.inl h))))))))
theorem sk_t9 {w : Cond} (h : w ∈ tables_1_9) : w ∈ lw_tbl := by
  unfold lw_tbl tables_1
  simp only [List.mem_append]
  exact Or.inr (Or.inr (Or.inr (Or.inr (Or.inr (Or.inr (Or.inr (Or.inr (Or.inr (h)))))))))
theorem sk_okP {w : Cond} (i : Nat) (h : lw_tbl[i]? = some w) (g : goodWord w = true) : sk_wok w = true := by
  unfold sk_wok
  rw [decide_eq_true (List.mem_of_getElem? h), g]
  rfl
theorem sk_al4 {a b c d : Cond} (h1 : sk_wok a = true) (h2 : sk_wok b = true) (h3 : sk_wok c = true) (h4 : sk_wok d = true) : [a, b, c, d].all sk_wok = true := by simp [h1, h2, h3, h4]
theorem cw_J0_charAt_5068e : sk_wok (sk_cw mJ0_charAt_5068e) = true := sk_okQ (sk_t3 (List.mem_of_getElem? (i := 62) rfl)) rfl
theorem cw_J0_checkIndex_df160 : sk_wok (sk_cw mJ0_checkIndex_df160) = true := sk_okQ (sk_t3 (List.mem_of_getElem? (i := 72) rfl)) rfl
theorem cw_J0_coder_7d493 : sk_wok (sk_cw mJ0_coder_7d493) = true := sk_okQ (sk_t3 (List.mem_of_getElem? (i := 56) rfl)) rfl
theorem cw_J0_isLatin1_aae02 : sk_wok (sk_cw mJ0_isLatin1_aae02) = true := sk_okQ (sk_t3 (List.mem_of_getElem? (i := 66) rfl)) rfl
theorem cw_J0_length_8abf5 : sk_wok (sk_cw mJ0_length_8abf5) = true := sk_okQ (sk_t3 (List.mem_of_getElem? (i := 52) rfl)) rfl
theorem cw_J13_bitCount_95d88 : sk_wok (sk_cw mJ13_bitCount_95d88) = true := sk_okQ (sk_t2 (List.mem_of_getElem? (i := 207) rfl)) rfl
theorem cw_J1_charAt_3b067 : sk_wok (sk_cw mJ1_charAt_3b067) = true := sk_okQ (sk_t3 (List.mem_of_getElem? (i := 69) rfl)) rfl
theorem cw_J2_charAt_3b067 : sk_wok (sk_cw mJ2_charAt_3b067) = true := sk_okQ (sk_t3 (List.mem_of_getElem? (i := 80) rfl)) rfl
theorem cw_J2_checkIndex_2214a : sk_wok (sk_cw mJ2_checkIndex_2214a) = true := sk_okQ (sk_t3 (List.mem_of_getElem? (i := 83) rfl)) rfl
theorem cw_J2_getChar_3b067 : sk_wok (sk_cw mJ2_getChar_3b067) = true := sk_okQ (sk_t3 (List.mem_of_getElem? (i := 90) rfl)) rfl
theorem cw_J2_length_9d52b : sk_wok (sk_cw mJ2_length_9d52b) = true := sk_okQ (sk_t3 (List.mem_of_getElem? (i := 86) rfl)) rfl
theorem cw_J3_checkIndex_8e157 : sk_wok (sk_cw mJ3_checkIndex_8e157) = true := sk_okQ (sk_t3 (List.mem_of_getElem? (i := 77) rfl)) rfl
theorem cw_J6_bitCount_0f7a4 : sk_wok (sk_cw mJ6_bitCount_0f7a4) = true := sk_okQ (sk_t2 (List.mem_of_getElem? (i := 190) rfl)) rfl
theorem cw_J6_numberOfTrailingZeros_0f7a4 : sk_wok (sk_cw mJ6_numberOfTrailingZeros_0f7a4) = true := sk_okQ (sk_t2 (List.mem_of_getElem? (i := 183) rfl)) rfl
theorem cw_J7_fill_53178 : sk_wok (sk_cw mJ7_fill_53178) = true := sk_okQ (sk_t4 (List.mem_of_getElem? (i := 14) rfl)) rfl
theorem cw_J9_abs_0f7a4 : sk_wok (sk_cw mJ9_abs_0f7a4) = true := sk_okQ (sk_t4 (List.mem_of_getElem? (i := 51) rfl)) rfl
theorem cw_J9_max_7cf53 : sk_wok (sk_cw mJ9_max_7cf53) = true := sk_okQ (sk_t2 (List.mem_of_getElem? (i := 151) rfl)) rfl
theorem cw_J9_min_7cf53 : sk_wok (sk_cw mJ9_min_7cf53) = true := sk_okQ (sk_t2 (List.mem_of_getElem? (i := 148) rfl)) rfl
theorem cw_X0_contractLine : sk_wok (sk_cw mX0_contractLine) = true := sk_okQ (sk_t3 (List.mem_of_getElem? (i := 139) rfl)) rfl
theorem cw_X0_guardDays : sk_wok (sk_cw mX0_guardDays) = true := sk_okQ (sk_t3 (List.mem_of_getElem? (i := 124) rfl)) rfl
theorem cw_X0_line : sk_wok (sk_cw mX0_line) = true := sk_okQ (sk_t3 (List.mem_of_getElem? (i := 43) rfl)) rfl
theorem cw_X0_personLine : sk_wok (sk_cw mX0_personLine) = true := sk_okQ (sk_t3 (List.mem_of_getElem? (i := 134) rfl)) rfl
theorem cw_X0_read : sk_wok (sk_cw mX0_read) = true := sk_okQ (sk_t3 (List.mem_of_getElem? (i := 31) rfl)) rfl
theorem cw_X0_settle : sk_wok (sk_cw mX0_settle) = true := sk_okQ (sk_t4 (List.mem_of_getElem? (i := 0) rfl)) rfl
theorem cw_X0_vaultLine : sk_wok (sk_cw mX0_vaultLine) = true := sk_okQ (sk_t3 (List.mem_of_getElem? (i := 100) rfl)) rfl
theorem cw_X1_apart : sk_wok (sk_cw mX1_apart) = true := sk_okQ (sk_t4 (List.mem_of_getElem? (i := 48) rfl)) rfl
theorem cw_X1_atom : sk_wok (sk_cw mX1_atom) = true := sk_okQ (sk_t4 (List.mem_of_getElem? (i := 36) rfl)) rfl
theorem cw_X1_condition : sk_wok (sk_cw mX1_condition) = true := sk_okQ (sk_t4 (List.mem_of_getElem? (i := 32) rfl)) rfl
theorem cw_X1_line : sk_wok (sk_cw mX1_line) = true := sk_okQ (sk_t4 (List.mem_of_getElem? (i := 19) rfl)) rfl
theorem cw_X1_read : sk_wok (sk_cw mX1_read) = true := sk_okQ (sk_t4 (List.mem_of_getElem? (i := 11) rfl)) rfl
theorem cw_X1_sum : sk_wok (sk_cw mX1_sum) = true := sk_okQ (sk_t4 (List.mem_of_getElem? (i := 56) rfl)) rfl
theorem cw_X1_whereApart : sk_wok (sk_cw mX1_whereApart) = true := sk_okQ (sk_t4 (List.mem_of_getElem? (i := 45) rfl)) rfl
theorem cw_X1_whereLess : sk_wok (sk_cw mX1_whereLess) = true := sk_okQ (sk_t4 (List.mem_of_getElem? (i := 63) rfl)) rfl
theorem cw_X2_changedFrom : sk_wok (sk_cw mX2_changedFrom) = true := sk_okQ (sk_t6 (List.mem_of_getElem? (i := 50) rfl)) rfl
theorem cw_X2_draw : sk_wok (sk_cw mX2_draw) = true := sk_okQ (sk_t5 (List.mem_of_getElem? (i := 64) rfl)) rfl
theorem cw_X2_hasTold : sk_wok (sk_cw mX2_hasTold) = true := sk_okQ (sk_t5 (List.mem_of_getElem? (i := 69) rfl)) rfl
theorem cw_X2_work : sk_wok (sk_cw mX2_work) = true := sk_okQ (sk_t5 (List.mem_of_getElem? (i := 59) rfl)) rfl
theorem cw_X3_clear : sk_wok (sk_cw mX3_clear) = true := sk_okQ (sk_t3 (List.mem_of_getElem? (i := 2) rfl)) rfl
theorem cw_X3_giveBack : sk_wok (sk_cw mX3_giveBack) = true := sk_okQ (sk_t2 (List.mem_of_getElem? (i := 222) rfl)) rfl
theorem cw_X3_keep : sk_wok (sk_cw mX3_keep) = true := sk_okQ (sk_t4 (List.mem_of_getElem? (i := 223) rfl)) rfl
theorem cw_X4_bestTurning : sk_wok (sk_cw mX4_bestTurning) = true := sk_okQ (sk_t5 (List.mem_of_getElem? (i := 106) rfl)) rfl
theorem cw_X4_compare : sk_wok (sk_cw mX4_compare) = true := sk_okQ (sk_t5 (List.mem_of_getElem? (i := 152) rfl)) rfl
theorem cw_X4_countOne : sk_wok (sk_cw mX4_countOne) = true := sk_okQ (sk_t5 (List.mem_of_getElem? (i := 90) rfl)) rfl
theorem cw_X4_face : sk_wok (sk_cw mX4_face) = true := sk_okQ (sk_t4 (List.mem_of_getElem? (i := 232) rfl)) rfl
theorem cw_X4_findLeaders : sk_wok (sk_cw mX4_findLeaders) = true := sk_okQ (sk_t5 (List.mem_of_getElem? (i := 110) rfl)) rfl
theorem cw_X4_greatestPart : sk_wok (sk_cw mX4_greatestPart) = true := sk_okQ (sk_t5 (List.mem_of_getElem? (i := 80) rfl)) rfl
theorem cw_X4_hear : sk_wok (sk_cw mX4_hear) = true := sk_okQ (sk_t4 (List.mem_of_getElem? (i := 228) rfl)) rfl
theorem cw_X4_leads : sk_wok (sk_cw mX4_leads) = true := sk_okQ (sk_t5 (List.mem_of_getElem? (i := 118) rfl)) rfl
theorem cw_X4_load : sk_wok (sk_cw mX4_load) = true := sk_okQ (sk_t4 (List.mem_of_getElem? (i := 152) rfl)) rfl
theorem cw_X4_loadAllBut : sk_wok (sk_cw mX4_loadAllBut) = true := sk_okQ (sk_t5 (List.mem_of_getElem? (i := 169) rfl)) rfl
theorem cw_X4_mostShared : sk_wok (sk_cw mX4_mostShared) = true := sk_okQ (sk_t5 (List.mem_of_getElem? (i := 173) rfl)) rfl
theorem cw_X4_neededBehind : sk_wok (sk_cw mX4_neededBehind) = true := sk_okQ (sk_t5 (List.mem_of_getElem? (i := 157) rfl)) rfl
theorem cw_X4_partAll : sk_wok (sk_cw mX4_partAll) = true := sk_okQ (sk_t5 (List.mem_of_getElem? (i := 122) rfl)) rfl
theorem cw_X4_partsBy : sk_wok (sk_cw mX4_partsBy) = true := sk_okQ (sk_t5 (List.mem_of_getElem? (i := 95) rfl)) rfl
theorem cw_X4_sidesOf : sk_wok (sk_cw mX4_sidesOf) = true := sk_okQ (sk_t4 (List.mem_of_getElem? (i := 171) rfl)) rfl
theorem cw_X4_slotOf : sk_wok (sk_cw mX4_slotOf) = true := sk_okQ (sk_t4 (List.mem_of_getElem? (i := 236) rfl)) rfl
theorem cw_X4_soundsAlike : sk_wok (sk_cw mX4_soundsAlike) = true := sk_okQ (sk_t5 (List.mem_of_getElem? (i := 114) rfl)) rfl
theorem cw_X4_startTally : sk_wok (sk_cw mX4_startTally) = true := sk_okQ (sk_t5 (List.mem_of_getElem? (i := 84) rfl)) rfl
theorem cw_X4_turningsNeeded : sk_wok (sk_cw mX4_turningsNeeded) = true := sk_okQ (sk_t5 (List.mem_of_getElem? (i := 148) rfl)) rfl
theorem cw_X4_weigh : sk_wok (sk_cw mX4_weigh) = true := sk_okQ (sk_t5 (List.mem_of_getElem? (i := 130) rfl)) rfl
theorem cw_X4_weighAlike : sk_wok (sk_cw mX4_weighAlike) = true := sk_okQ (sk_t5 (List.mem_of_getElem? (i := 126) rfl)) rfl
theorem cw_X5_canBe : sk_wok (sk_cw mX5_canBe) = true := sk_okQ (sk_t4 (List.mem_of_getElem? (i := 156) rfl)) rfl
theorem cw_X5_copyFrom : sk_wok (sk_cw mX5_copyFrom) = true := sk_okQ (sk_t2 (List.mem_of_getElem? (i := 226) rfl)) rfl
theorem cw_X5_guardedToday : sk_wok (sk_cw mX5_guardedToday) = true := sk_okQ (sk_t3 (List.mem_of_getElem? (i := 10) rfl)) rfl
theorem cw_X5_isBroken : sk_wok (sk_cw mX5_isBroken) = true := sk_okQ (sk_t2 (List.mem_of_getElem? (i := 164) rfl)) rfl
theorem cw_X5_isGuarded : sk_wok (sk_cw mX5_isGuarded) = true := sk_okQ (sk_t3 (List.mem_of_getElem? (i := 14) rfl)) rfl
theorem cw_X5_isOpenContract : sk_wok (sk_cw mX5_isOpenContract) = true := sk_okQ (sk_t2 (List.mem_of_getElem? (i := 168) rfl)) rfl
theorem cw_X5_know : sk_wok (sk_cw mX5_know) = true := sk_okQ (sk_t5 (List.mem_of_getElem? (i := 0) rfl)) rfl
theorem cw_X5_knowNothing : sk_wok (sk_cw mX5_knowNothing) = true := sk_okQ (sk_t4 (List.mem_of_getElem? (i := 73) rfl)) rfl
theorem cw_X5_learnFrom : sk_wok (sk_cw mX5_learnFrom) = true := sk_okQ (sk_t5 (List.mem_of_getElem? (i := 20) rfl)) rfl
theorem cw_X5_leftOf : sk_wok (sk_cw mX5_leftOf) = true := sk_okQ (sk_t2 (List.mem_of_getElem? (i := 201) rfl)) rfl
theorem cw_X5_leftOfAll : sk_wok (sk_cw mX5_leftOfAll) = true := sk_okQ (sk_t5 (List.mem_of_getElem? (i := 191) rfl)) rfl
theorem cw_X5_obey : sk_wok (sk_cw mX5_obey) = true := sk_okQ (sk_t4 (List.mem_of_getElem? (i := 69) rfl)) rfl
theorem cw_X5_quarrelsOf : sk_wok (sk_cw mX5_quarrelsOf) = true := sk_okQ (sk_t2 (List.mem_of_getElem? (i := 180) rfl)) rfl
theorem cw_X5_rangeOf : sk_wok (sk_cw mX5_rangeOf) = true := sk_okQ (sk_t2 (List.mem_of_getElem? (i := 141) rfl)) rfl
theorem cw_X5_rowCell : sk_wok (sk_cw mX5_rowCell) = true := sk_okQ (sk_t2 (List.mem_of_getElem? (i := 172) rfl)) rfl
theorem cw_X5_shareOf : sk_wok (sk_cw mX5_shareOf) = true := sk_okQ (sk_t6 (List.mem_of_getElem? (i := 1) rfl)) rfl
theorem cw_X5_soundOf : sk_wok (sk_cw mX5_soundOf) = true := sk_okQ (sk_t4 (List.mem_of_getElem? (i := 194) rfl)) rfl
theorem cw_X5_tellAnew : sk_wok (sk_cw mX5_tellAnew) = true := sk_okQ (sk_t5 (List.mem_of_getElem? (i := 39) rfl)) rfl
theorem cw_X5_wheelRange : sk_wok (sk_cw mX5_wheelRange) = true := sk_okQ (sk_t2 (List.mem_of_getElem? (i := 145) rfl)) rfl
theorem cw_X5_wordsOf : sk_wok (sk_cw mX5_wordsOf) = true := sk_okQ (sk_t2 (List.mem_of_getElem? (i := 204) rfl)) rfl
theorem cw_X5_worthOfAll : sk_wok (sk_cw mX5_worthOfAll) = true := sk_okQ (sk_t3 (List.mem_of_getElem? (i := 18) rfl)) rfl
theorem cw_X5_write : sk_wok (sk_cw mX5_write) = true := sk_okQ (sk_t5 (List.mem_of_getElem? (i := 4) rfl)) rfl
theorem cw_X6_figures : sk_wok (sk_cw mX6_figures) = true := sk_okQ (sk_t3 (List.mem_of_getElem? (i := 109) rfl)) rfl
theorem cw_X6_hasRoom : sk_wok (sk_cw mX6_hasRoom) = true := sk_okQ (sk_t2 (List.mem_of_getElem? (i := 121) rfl)) rfl
theorem cw_X6_is : sk_wok (sk_cw mX6_is) = true := sk_okQ (sk_t3 (List.mem_of_getElem? (i := 48) rfl)) rfl
theorem cw_X6_isSign : sk_wok (sk_cw mX6_isSign) = true := sk_okQ (sk_t3 (List.mem_of_getElem? (i := 150) rfl)) rfl
theorem cw_X6_isWrong : sk_wok (sk_cw mX6_isWrong) = true := sk_okQ (sk_t3 (List.mem_of_getElem? (i := 129) rfl)) rfl
theorem cw_X6_numberUpTo : sk_wok (sk_cw mX6_numberUpTo) = true := sk_okQ (sk_t3 (List.mem_of_getElem? (i := 120) rfl)) rfl
theorem cw_X6_pass : sk_wok (sk_cw mX6_pass) = true := sk_okQ (sk_t3 (List.mem_of_getElem? (i := 115) rfl)) rfl
theorem cw_X6_passSign : sk_wok (sk_cw mX6_passSign) = true := sk_okQ (sk_t3 (List.mem_of_getElem? (i := 146) rfl)) rfl
theorem cw_X6_put : sk_wok (sk_cw mX6_put) = true := sk_okQ (sk_t2 (List.mem_of_getElem? (i := 125) rfl)) rfl
theorem cw_X6_refuse : sk_wok (sk_cw mX6_refuse) = true := sk_okQ (sk_t3 (List.mem_of_getElem? (i := 104) rfl)) rfl
theorem cw_X6_rewind : sk_wok (sk_cw mX6_rewind) = true := sk_okQ (sk_t3 (List.mem_of_getElem? (i := 35) rfl)) rfl
theorem cw_X6_step : sk_wok (sk_cw mX6_step) = true := sk_okQ (sk_t3 (List.mem_of_getElem? (i := 39) rfl)) rfl
theorem cw_X7_alone : sk_wok (sk_cw mX7_alone) = true := sk_okQ (sk_t5 (List.mem_of_getElem? (i := 180) rfl)) rfl
theorem cw_X7_back : sk_wok (sk_cw mX7_back) = true := sk_okQ (sk_t2 (List.mem_of_getElem? (i := 238) rfl)) rfl
theorem cw_X7_bank : sk_wok (sk_cw mX7_bank) = true := sk_okQ (sk_t3 (List.mem_of_getElem? (i := 27) rfl)) rfl
theorem cw_X7_breaks : sk_wok (sk_cw mX7_breaks) = true := sk_okQ (sk_t2 (List.mem_of_getElem? (i := 176) rfl)) rfl
theorem cw_X7_broken : sk_wok (sk_cw mX7_broken) = true := sk_okQ (sk_t2 (List.mem_of_getElem? (i := 160) rfl)) rfl
theorem cw_X7_change : sk_wok (sk_cw mX7_change) = true := sk_okQ (sk_t5 (List.mem_of_getElem? (i := 35) rfl)) rfl
theorem cw_X7_click : sk_wok (sk_cw mX7_click) = true := sk_okQ (sk_t4 (List.mem_of_getElem? (i := 178) rfl)) rfl
theorem cw_X7_code : sk_wok (sk_cw mX7_code) = true := sk_okQ (sk_t4 (List.mem_of_getElem? (i := 148) rfl)) rfl
theorem cw_X7_contract : sk_wok (sk_cw mX7_contract) = true := sk_okQ (sk_t5 (List.mem_of_getElem? (i := 219) rfl)) rfl
theorem cw_X7_count : sk_wok (sk_cw mX7_count) = true := sk_okQ (sk_t3 (List.mem_of_getElem? (i := 6) rfl)) rfl
theorem cw_X7_days : sk_wok (sk_cw mX7_days) = true := sk_okQ (sk_t5 (List.mem_of_getElem? (i := 54) rfl)) rfl
theorem cw_X7_deaf : sk_wok (sk_cw mX7_deaf) = true := sk_okQ (sk_t2 (List.mem_of_getElem? (i := 155) rfl)) rfl
theorem cw_X7_end : sk_wok (sk_cw mX7_end) = true := sk_okQ (sk_t2 (List.mem_of_getElem? (i := 129) rfl)) rfl
theorem cw_X7_fault : sk_wok (sk_cw mX7_fault) = true := sk_okQ (sk_t2 (List.mem_of_getElem? (i := 133) rfl)) rfl
theorem cw_X7_feed : sk_wok (sk_cw mX7_feed) = true := sk_okQ (sk_t2 (List.mem_of_getElem? (i := 117) rfl)) rfl
theorem cw_X7_fewerOf : sk_wok (sk_cw mX7_fewerOf) = true := sk_okQ (sk_t2 (List.mem_of_getElem? (i := 187) rfl)) rfl
theorem cw_X7_fewest : sk_wok (sk_cw mX7_fewest) = true := sk_okQ (sk_t5 (List.mem_of_getElem? (i := 198) rfl)) rfl
theorem cw_X7_first : sk_wok (sk_cw mX7_first) = true := sk_okQ (sk_t6 (List.mem_of_getElem? (i := 9) rfl)) rfl
theorem cw_X7_forget : sk_wok (sk_cw mX7_forget) = true := sk_okQ (sk_t5 (List.mem_of_getElem? (i := 27) rfl)) rfl
theorem cw_X7_gains : sk_wok (sk_cw mX7_gains) = true := sk_okQ (sk_t5 (List.mem_of_getElem? (i := 212) rfl)) rfl
theorem cw_X7_gaps : sk_wok (sk_cw mX7_gaps) = true := sk_okQ (sk_t4 (List.mem_of_getElem? (i := 105) rfl)) rfl
theorem cw_X7_guard : sk_wok (sk_cw mX7_guard) = true := sk_okQ (sk_t5 (List.mem_of_getElem? (i := 46) rfl)) rfl
theorem cw_X7_image : sk_wok (sk_cw mX7_image) = true := sk_okQ (sk_t2 (List.mem_of_getElem? (i := 233) rfl)) rfl
theorem cw_X7_law : sk_wok (sk_cw mX7_law) = true := sk_okQ (sk_t4 (List.mem_of_getElem? (i := 7) rfl)) rfl
theorem cw_X7_left : sk_wok (sk_cw mX7_left) = true := sk_okQ (sk_t4 (List.mem_of_getElem? (i := 136) rfl)) rfl
theorem cw_X7_leftWholeAfterwards : sk_wok (sk_cw mX7_leftWholeAfterwards) = true := sk_okQ (sk_t6 (List.mem_of_getElem? (i := 46) rfl)) rfl
theorem cw_X7_log : sk_wok (sk_cw mX7_log) = true := sk_okQ (sk_t6 (List.mem_of_getElem? (i := 64) rfl)) rfl
theorem cw_X7_longestGap : sk_wok (sk_cw mX7_longestGap) = true := sk_okQ (sk_t4 (List.mem_of_getElem? (i := 112) rfl)) rfl
theorem cw_X7_loudest : sk_wok (sk_cw mX7_loudest) = true := sk_okQ (sk_t2 (List.mem_of_getElem? (i := 137) rfl)) rfl
theorem cw_X7_needCode : sk_wok (sk_cw mX7_needCode) = true := sk_okQ (sk_t4 (List.mem_of_getElem? (i := 189) rfl)) rfl
theorem cw_X7_needPerson : sk_wok (sk_cw mX7_needPerson) = true := sk_okQ (sk_t4 (List.mem_of_getElem? (i := 140) rfl)) rfl
theorem cw_X7_needTrial : sk_wok (sk_cw mX7_needTrial) = true := sk_okQ (sk_t6 (List.mem_of_getElem? (i := 41) rfl)) rfl
theorem cw_X7_needTwo : sk_wok (sk_cw mX7_needTwo) = true := sk_okQ (sk_t5 (List.mem_of_getElem? (i := 15) rfl)) rfl
theorem cw_X7_needVault : sk_wok (sk_cw mX7_needVault) = true := sk_okQ (sk_t4 (List.mem_of_getElem? (i := 86) rfl)) rfl
theorem cw_X7_needWheel : sk_wok (sk_cw mX7_needWheel) = true := sk_okQ (sk_t4 (List.mem_of_getElem? (i := 166) rfl)) rfl
theorem cw_X7_next : sk_wok (sk_cw mX7_next) = true := sk_okQ (sk_t5 (List.mem_of_getElem? (i := 102) rfl)) rfl
theorem cw_X7_outright : sk_wok (sk_cw mX7_outright) = true := sk_okQ (sk_t5 (List.mem_of_getElem? (i := 137) rfl)) rfl
theorem cw_X7_pair : sk_wok (sk_cw mX7_pair) = true := sk_okQ (sk_t5 (List.mem_of_getElem? (i := 205) rfl)) rfl
theorem cw_X7_parts : sk_wok (sk_cw mX7_parts) = true := sk_okQ (sk_t5 (List.mem_of_getElem? (i := 76) rfl)) rfl
theorem cw_X7_price : sk_wok (sk_cw mX7_price) = true := sk_okQ (sk_t6 (List.mem_of_getElem? (i := 24) rfl)) rfl
theorem cw_X7_quietest : sk_wok (sk_cw mX7_quietest) = true := sk_okQ (sk_t5 (List.mem_of_getElem? (i := 165) rfl)) rfl
theorem cw_X7_richest : sk_wok (sk_cw mX7_richest) = true := sk_okQ (sk_t5 (List.mem_of_getElem? (i := 237) rfl)) rfl
theorem cw_X7_risky : sk_wok (sk_cw mX7_risky) = true := sk_okQ (sk_t2 (List.mem_of_getElem? (i := 197) rfl)) rfl
theorem cw_X7_rota : sk_wok (sk_cw mX7_rota) = true := sk_okQ (sk_t5 (List.mem_of_getElem? (i := 229) rfl)) rfl
theorem cw_X7_seed : sk_wok (sk_cw mX7_seed) = true := sk_okQ (sk_t2 (List.mem_of_getElem? (i := 214) rfl)) rfl
theorem cw_X7_soon : sk_wok (sk_cw mX7_soon) = true := sk_okQ (sk_t4 (List.mem_of_getElem? (i := 108) rfl)) rfl
theorem cw_X7_sound : sk_wok (sk_cw mX7_sound) = true := sk_okQ (sk_t4 (List.mem_of_getElem? (i := 186) rfl)) rfl
theorem cw_X7_span : sk_wok (sk_cw mX7_span) = true := sk_okQ (sk_t6 (List.mem_of_getElem? (i := 57) rfl)) rfl
theorem cw_X7_tell : sk_wok (sk_cw mX7_tell) = true := sk_okQ (sk_t5 (List.mem_of_getElem? (i := 11) rfl)) rfl
theorem cw_X7_together : sk_wok (sk_cw mX7_together) = true := sk_okQ (sk_t5 (List.mem_of_getElem? (i := 187) rfl)) rfl
theorem cw_X7_trial : sk_wok (sk_cw mX7_trial) = true := sk_okQ (sk_t6 (List.mem_of_getElem? (i := 38) rfl)) rfl
theorem cw_X7_turn : sk_wok (sk_cw mX7_turn) = true := sk_okQ (sk_t4 (List.mem_of_getElem? (i := 202) rfl)) rfl
theorem cw_X7_turned : sk_wok (sk_cw mX7_turned) = true := sk_okQ (sk_t6 (List.mem_of_getElem? (i := 17) rfl)) rfl
theorem cw_X7_undo : sk_wok (sk_cw mX7_undo) = true := sk_okQ (sk_t2 (List.mem_of_getElem? (i := 218) rfl)) rfl
theorem cw_X7_vault : sk_wok (sk_cw mX7_vault) = true := sk_okQ (sk_t4 (List.mem_of_getElem? (i := 82) rfl)) rfl
theorem cw_X7_wheel : sk_wok (sk_cw mX7_wheel) = true := sk_okQ (sk_t4 (List.mem_of_getElem? (i := 163) rfl)) rfl
theorem cw_X7_when : sk_wok (sk_cw mX7_when) = true := sk_okQ (sk_t6 (List.mem_of_getElem? (i := 31) rfl)) rfl
theorem cw_X7_worst : sk_wok (sk_cw mX7_worst) = true := sk_okQ (sk_t5 (List.mem_of_getElem? (i := 144) rfl)) rfl
theorem cw_X8_after : sk_wok (sk_cw mX8_after) = true := sk_okQ (sk_t7 (List.mem_of_getElem? (i := 0) rfl)) rfl
theorem cw_X8_allForget : sk_wok (sk_cw mX8_allForget) = true := sk_okQ (sk_t7 (List.mem_of_getElem? (i := 25) rfl)) rfl
theorem cw_X8_allPeople : sk_wok (sk_cw mX8_allPeople) = true := sk_okQ (sk_t8 (List.mem_of_getElem? (i := 100) rfl)) rfl
theorem cw_X8_allWorth : sk_wok (sk_cw mX8_allWorth) = true := sk_okQ (sk_t8 (List.mem_of_getElem? (i := 228) rfl)) rfl
theorem cw_X8_alone : sk_wok (sk_cw mX8_alone) = true := sk_okQ (sk_t8 (List.mem_of_getElem? (i := 92) rfl)) rfl
theorem cw_X8_anew : sk_wok (sk_cw mX8_anew) = true := sk_okQ (sk_t8 (List.mem_of_getElem? (i := 21) rfl)) rfl
theorem cw_X8_apartOf : sk_wok (sk_cw mX8_apartOf) = true := sk_okQ (sk_t7 (List.mem_of_getElem? (i := 140) rfl)) rfl
theorem cw_X8_areQuarrel : sk_wok (sk_cw mX8_areQuarrel) = true := sk_okQ (sk_t8 (List.mem_of_getElem? (i := 128) rfl)) rfl
theorem cw_X8_at : sk_wok (sk_cw mX8_at) = true := sk_okQ (sk_t7 (List.mem_of_getElem? (i := 32) rfl)) rfl
theorem cw_X8_back : sk_wok (sk_cw mX8_back) = true := sk_okQ (sk_t6 (List.mem_of_getElem? (i := 168) rfl)) rfl
theorem cw_X8_bank : sk_wok (sk_cw mX8_bank) = true := sk_okQ (sk_t6 (List.mem_of_getElem? (i := 188) rfl)) rfl
theorem cw_X8_blanks : sk_wok (sk_cw mX8_blanks) = true := sk_okQ (sk_t6 (List.mem_of_getElem? (i := 200) rfl)) rfl
theorem cw_X8_breaks : sk_wok (sk_cw mX8_breaks) = true := sk_okQ (sk_t8 (List.mem_of_getElem? (i := 148) rfl)) rfl
theorem cw_X8_bringsBack : sk_wok (sk_cw mX8_bringsBack) = true := sk_okQ (sk_t8 (List.mem_of_getElem? (i := 188) rfl)) rfl
theorem cw_X8_broken : sk_wok (sk_cw mX8_broken) = true := sk_okQ (sk_t8 (List.mem_of_getElem? (i := 136) rfl)) rfl
theorem cw_X8_canBe : sk_wok (sk_cw mX8_canBe) = true := sk_okQ (sk_t7 (List.mem_of_getElem? (i := 209) rfl)) rfl
theorem cw_X8_change : sk_wok (sk_cw mX8_change) = true := sk_okQ (sk_t8 (List.mem_of_getElem? (i := 17) rfl)) rfl
theorem cw_X8_changedOnes : sk_wok (sk_cw mX8_changedOnes) = true := sk_okQ (sk_t8 (List.mem_of_getElem? (i := 200) rfl)) rfl
theorem cw_X8_click : sk_wok (sk_cw mX8_click) = true := sk_okQ (sk_t7 (List.mem_of_getElem? (i := 123) rfl)) rfl
theorem cw_X8_clickAt : sk_wok (sk_cw mX8_clickAt) = true := sk_okQ (sk_t7 (List.mem_of_getElem? (i := 156) rfl)) rfl
theorem cw_X8_clickOf : sk_wok (sk_cw mX8_clickOf) = true := sk_okQ (sk_t7 (List.mem_of_getElem? (i := 130) rfl)) rfl
theorem cw_X8_code : sk_wok (sk_cw mX8_code) = true := sk_okQ (sk_t7 (List.mem_of_getElem? (i := 205) rfl)) rfl
theorem cw_X8_codeTold : sk_wok (sk_cw mX8_codeTold) = true := sk_okQ (sk_t6 (List.mem_of_getElem? (i := 235) rfl)) rfl
theorem cw_X8_contract : sk_wok (sk_cw mX8_contract) = true := sk_okQ (sk_t8 (List.mem_of_getElem? (i := 120) rfl)) rfl
theorem cw_X8_contracts : sk_wok (sk_cw mX8_contracts) = true := sk_okQ (sk_t7 (List.mem_of_getElem? (i := 53) rfl)) rfl
theorem cw_X8_copies : sk_wok (sk_cw mX8_copies) = true := sk_okQ (sk_t6 (List.mem_of_getElem? (i := 164) rfl)) rfl
theorem cw_X8_count : sk_wok (sk_cw mX8_count) = true := sk_okQ (sk_t8 (List.mem_of_getElem? (i := 216) rfl)) rfl
theorem cw_X8_days : sk_wok (sk_cw mX8_days) = true := sk_okQ (sk_t8 (List.mem_of_getElem? (i := 29) rfl)) rfl
theorem cw_X8_deaf : sk_wok (sk_cw mX8_deaf) = true := sk_okQ (sk_t8 (List.mem_of_getElem? (i := 88) rfl)) rfl
theorem cw_X8_draw : sk_wok (sk_cw mX8_draw) = true := sk_okQ (sk_t8 (List.mem_of_getElem? (i := 37) rfl)) rfl
theorem cw_X8_emits : sk_wok (sk_cw mX8_emits) = true := sk_okQ (sk_t7 (List.mem_of_getElem? (i := 91) rfl)) rfl
theorem cw_X8_end : sk_wok (sk_cw mX8_end) = true := sk_okQ (sk_t6 (List.mem_of_getElem? (i := 180) rfl)) rfl
theorem cw_X8_factOf : sk_wok (sk_cw mX8_factOf) = true := sk_okQ (sk_t7 (List.mem_of_getElem? (i := 137) rfl)) rfl
theorem cw_X8_fault : sk_wok (sk_cw mX8_fault) = true := sk_okQ (sk_t6 (List.mem_of_getElem? (i := 184) rfl)) rfl
theorem cw_X8_feed : sk_wok (sk_cw mX8_feed) = true := sk_okQ (sk_t6 (List.mem_of_getElem? (i := 176) rfl)) rfl
theorem cw_X8_fewest : sk_wok (sk_cw mX8_fewest) = true := sk_okQ (sk_t8 (List.mem_of_getElem? (i := 108) rfl)) rfl
theorem cw_X8_figureOf : sk_wok (sk_cw mX8_figureOf) = true := sk_okQ (sk_t7 (List.mem_of_getElem? (i := 220) rfl)) rfl
theorem cw_X8_figuresOf : sk_wok (sk_cw mX8_figuresOf) = true := sk_okQ (sk_t7 (List.mem_of_getElem? (i := 217) rfl)) rfl
theorem cw_X8_first : sk_wok (sk_cw mX8_first) = true := sk_okQ (sk_t8 (List.mem_of_getElem? (i := 164) rfl)) rfl
theorem cw_X8_forget : sk_wok (sk_cw mX8_forget) = true := sk_okQ (sk_t8 (List.mem_of_getElem? (i := 13) rfl)) rfl
theorem cw_X8_forgets : sk_wok (sk_cw mX8_forgets) = true := sk_okQ (sk_t7 (List.mem_of_getElem? (i := 29) rfl)) rfl
theorem cw_X8_gains : sk_wok (sk_cw mX8_gains) = true := sk_okQ (sk_t8 (List.mem_of_getElem? (i := 116) rfl)) rfl
theorem cw_X8_guard : sk_wok (sk_cw mX8_guard) = true := sk_okQ (sk_t8 (List.mem_of_getElem? (i := 25) rfl)) rfl
theorem cw_X8_guardedOnes : sk_wok (sk_cw mX8_guardedOnes) = true := sk_okQ (sk_t8 (List.mem_of_getElem? (i := 224) rfl)) rfl
theorem cw_X8_has : sk_wok (sk_cw mX8_has) = true := sk_okQ (sk_t7 (List.mem_of_getElem? (i := 179) rfl)) rfl
theorem cw_X8_hears : sk_wok (sk_cw mX8_hears) = true := sk_okQ (sk_t7 (List.mem_of_getElem? (i := 233) rfl)) rfl
theorem cw_X8_holdsLine : sk_wok (sk_cw mX8_holdsLine) = true := sk_okQ (sk_t7 (List.mem_of_getElem? (i := 134) rfl)) rfl
theorem cw_X8_image : sk_wok (sk_cw mX8_image) = true := sk_okQ (sk_t6 (List.mem_of_getElem? (i := 161) rfl)) rfl
theorem cw_X8_in : sk_wok (sk_cw mX8_in) = true := sk_okQ (sk_t7 (List.mem_of_getElem? (i := 126) rfl)) rfl
theorem cw_X8_isAlone : sk_wok (sk_cw mX8_isAlone) = true := sk_okQ (sk_t8 (List.mem_of_getElem? (i := 1) rfl)) rfl
theorem cw_X8_isAt : sk_wok (sk_cw mX8_isAt) = true := sk_okQ (sk_t6 (List.mem_of_getElem? (i := 204) rfl)) rfl
theorem cw_X8_isFigure : sk_wok (sk_cw mX8_isFigure) = true := sk_okQ (sk_t7 (List.mem_of_getElem? (i := 21) rfl)) rfl
theorem cw_X8_isGuarded : sk_wok (sk_cw mX8_isGuarded) = true := sk_okQ (sk_t7 (List.mem_of_getElem? (i := 176) rfl)) rfl
theorem cw_X8_isLogged : sk_wok (sk_cw mX8_isLogged) = true := sk_okQ (sk_t8 (List.mem_of_getElem? (i := 140) rfl)) rfl
theorem cw_X8_isNot : sk_wok (sk_cw mX8_isNot) = true := sk_okQ (sk_t7 (List.mem_of_getElem? (i := 237) rfl)) rfl
theorem cw_X8_isPeace : sk_wok (sk_cw mX8_isPeace) = true := sk_okQ (sk_t8 (List.mem_of_getElem? (i := 152) rfl)) rfl
theorem cw_X8_isWord : sk_wok (sk_cw mX8_isWord) = true := sk_okQ (sk_t6 (List.mem_of_getElem? (i := 221) rfl)) rfl
theorem cw_X8_keepsAll : sk_wok (sk_cw mX8_keepsAll) = true := sk_okQ (sk_t8 (List.mem_of_getElem? (i := 184) rfl)) rfl
theorem cw_X8_law : sk_wok (sk_cw mX8_law) = true := sk_okQ (sk_t7 (List.mem_of_getElem? (i := 119) rfl)) rfl
theorem cw_X8_laysClicks : sk_wok (sk_cw mX8_laysClicks) = true := sk_okQ (sk_t7 (List.mem_of_getElem? (i := 153) rfl)) rfl
theorem cw_X8_left : sk_wok (sk_cw mX8_left) = true := sk_okQ (sk_t7 (List.mem_of_getElem? (i := 192) rfl)) rfl
theorem cw_X8_leftBy : sk_wok (sk_cw mX8_leftBy) = true := sk_okQ (sk_t8 (List.mem_of_getElem? (i := 104) rfl)) rfl
theorem cw_X8_leftOf : sk_wok (sk_cw mX8_leftOf) = true := sk_okQ (sk_t7 (List.mem_of_getElem? (i := 200) rfl)) rfl
theorem cw_X8_letters : sk_wok (sk_cw mX8_letters) = true := sk_okQ (sk_t6 (List.mem_of_getElem? (i := 212) rfl)) rfl
theorem cw_X8_log : sk_wok (sk_cw mX8_log) = true := sk_okQ (sk_t8 (List.mem_of_getElem? (i := 208) rfl)) rfl
theorem cw_X8_longOf : sk_wok (sk_cw mX8_longOf) = true := sk_okQ (sk_t7 (List.mem_of_getElem? (i := 182) rfl)) rfl
theorem cw_X8_loudest : sk_wok (sk_cw mX8_loudest) = true := sk_okQ (sk_t8 (List.mem_of_getElem? (i := 79) rfl)) rfl
theorem cw_X8_next : sk_wok (sk_cw mX8_next) = true := sk_okQ (sk_t8 (List.mem_of_getElem? (i := 50) rfl)) rfl
theorem cw_X8_nextOf : sk_wok (sk_cw mX8_nextOf) = true := sk_okQ (sk_t8 (List.mem_of_getElem? (i := 54) rfl)) rfl
theorem cw_X8_noCode : sk_wok (sk_cw mX8_noCode) = true := sk_okQ (sk_t7 (List.mem_of_getElem? (i := 149) rfl)) rfl
theorem cw_X8_noPerson : sk_wok (sk_cw mX8_noPerson) = true := sk_okQ (sk_t7 (List.mem_of_getElem? (i := 196) rfl)) rfl
theorem cw_X8_noVault : sk_wok (sk_cw mX8_noVault) = true := sk_okQ (sk_t7 (List.mem_of_getElem? (i := 168) rfl)) rfl
theorem cw_X8_number : sk_wok (sk_cw mX8_number) = true := sk_okQ (sk_t7 (List.mem_of_getElem? (i := 4) rfl)) rfl
theorem cw_X8_of : sk_wok (sk_cw mX8_of) = true := sk_okQ (sk_t7 (List.mem_of_getElem? (i := 17) rfl)) rfl
theorem cw_X8_ofContract : sk_wok (sk_cw mX8_ofContract) = true := sk_okQ (sk_t8 (List.mem_of_getElem? (i := 132) rfl)) rfl
theorem cw_X8_ofLog : sk_wok (sk_cw mX8_ofLog) = true := sk_okQ (sk_t8 (List.mem_of_getElem? (i := 144) rfl)) rfl
theorem cw_X8_oneDay : sk_wok (sk_cw mX8_oneDay) = true := sk_okQ (sk_t8 (List.mem_of_getElem? (i := 33) rfl)) rfl
theorem cw_X8_openedOnes : sk_wok (sk_cw mX8_openedOnes) = true := sk_okQ (sk_t8 (List.mem_of_getElem? (i := 220) rfl)) rfl
theorem cw_X8_outright : sk_wok (sk_cw mX8_outright) = true := sk_okQ (sk_t8 (List.mem_of_getElem? (i := 59) rfl)) rfl
theorem cw_X8_pair : sk_wok (sk_cw mX8_pair) = true := sk_okQ (sk_t8 (List.mem_of_getElem? (i := 112) rfl)) rfl
theorem cw_X8_parts : sk_wok (sk_cw mX8_parts) = true := sk_okQ (sk_t8 (List.mem_of_getElem? (i := 42) rfl)) rfl
theorem cw_X8_partsOf : sk_wok (sk_cw mX8_partsOf) = true := sk_okQ (sk_t8 (List.mem_of_getElem? (i := 46) rfl)) rfl
theorem cw_X8_passes : sk_wok (sk_cw mX8_passes) = true := sk_okQ (sk_t7 (List.mem_of_getElem? (i := 13) rfl)) rfl
theorem cw_X8_people : sk_wok (sk_cw mX8_people) = true := sk_okQ (sk_t7 (List.mem_of_getElem? (i := 43) rfl)) rfl
theorem cw_X8_personTold : sk_wok (sk_cw mX8_personTold) = true := sk_okQ (sk_t7 (List.mem_of_getElem? (i := 57) rfl)) rfl
theorem cw_X8_price : sk_wok (sk_cw mX8_price) = true := sk_okQ (sk_t8 (List.mem_of_getElem? (i := 172) rfl)) rfl
theorem cw_X8_quarrelsOf : sk_wok (sk_cw mX8_quarrelsOf) = true := sk_okQ (sk_t8 (List.mem_of_getElem? (i := 124) rfl)) rfl
theorem cw_X8_quietest : sk_wok (sk_cw mX8_quietest) = true := sk_okQ (sk_t8 (List.mem_of_getElem? (i := 71) rfl)) rfl
theorem cw_X8_rangeOf : sk_wok (sk_cw mX8_rangeOf) = true := sk_okQ (sk_t8 (List.mem_of_getElem? (i := 83) rfl)) rfl
theorem cw_X8_readAll : sk_wok (sk_cw mX8_readAll) = true := sk_okQ (sk_t6 (List.mem_of_getElem? (i := 192) rfl)) rfl
theorem cw_X8_readAllOf : sk_wok (sk_cw mX8_readAllOf) = true := sk_okQ (sk_t7 (List.mem_of_getElem? (i := 78) rfl)) rfl
theorem cw_X8_readAtom : sk_wok (sk_cw mX8_readAtom) = true := sk_okQ (sk_t7 (List.mem_of_getElem? (i := 82) rfl)) rfl
theorem cw_X8_readBankLine : sk_wok (sk_cw mX8_readBankLine) = true := sk_okQ (sk_t6 (List.mem_of_getElem? (i := 216) rfl)) rfl
theorem cw_X8_readCond : sk_wok (sk_cw mX8_readCond) = true := sk_okQ (sk_t7 (List.mem_of_getElem? (i := 74) rfl)) rfl
theorem cw_X8_readContract : sk_wok (sk_cw mX8_readContract) = true := sk_okQ (sk_t7 (List.mem_of_getElem? (i := 49) rfl)) rfl
theorem cw_X8_readLawLine : sk_wok (sk_cw mX8_readLawLine) = true := sk_okQ (sk_t7 (List.mem_of_getElem? (i := 67) rfl)) rfl
theorem cw_X8_readLine : sk_wok (sk_cw mX8_readLine) = true := sk_okQ (sk_t6 (List.mem_of_getElem? (i := 208) rfl)) rfl
theorem cw_X8_readPart : sk_wok (sk_cw mX8_readPart) = true := sk_okQ (sk_t7 (List.mem_of_getElem? (i := 105) rfl)) rfl
theorem cw_X8_readPerson : sk_wok (sk_cw mX8_readPerson) = true := sk_okQ (sk_t7 (List.mem_of_getElem? (i := 39) rfl)) rfl
theorem cw_X8_readSum : sk_wok (sk_cw mX8_readSum) = true := sk_okQ (sk_t7 (List.mem_of_getElem? (i := 101) rfl)) rfl
theorem cw_X8_readTag : sk_wok (sk_cw mX8_readTag) = true := sk_okQ (sk_t7 (List.mem_of_getElem? (i := 95) rfl)) rfl
theorem cw_X8_readVault : sk_wok (sk_cw mX8_readVault) = true := sk_okQ (sk_t6 (List.mem_of_getElem? (i := 227) rfl)) rfl
theorem cw_X8_remembers : sk_wok (sk_cw mX8_remembers) = true := sk_okQ (sk_t7 (List.mem_of_getElem? (i := 229) rfl)) rfl
theorem cw_X8_richest : sk_wok (sk_cw mX8_richest) = true := sk_okQ (sk_t8 (List.mem_of_getElem? (i := 156) rfl)) rfl
theorem cw_X8_risky : sk_wok (sk_cw mX8_risky) = true := sk_okQ (sk_t8 (List.mem_of_getElem? (i := 176) rfl)) rfl
theorem cw_X8_rota : sk_wok (sk_cw mX8_rota) = true := sk_okQ (sk_t7 (List.mem_of_getElem? (i := 187) rfl)) rfl
theorem cw_X8_seed : sk_wok (sk_cw mX8_seed) = true := sk_okQ (sk_t8 (List.mem_of_getElem? (i := 212) rfl)) rfl
theorem cw_X8_sets : sk_wok (sk_cw mX8_sets) = true := sk_okQ (sk_t7 (List.mem_of_getElem? (i := 8) rfl)) rfl
theorem cw_X8_sharedBy : sk_wok (sk_cw mX8_sharedBy) = true := sk_okQ (sk_t8 (List.mem_of_getElem? (i := 75) rfl)) rfl
theorem cw_X8_sign : sk_wok (sk_cw mX8_sign) = true := sk_okQ (sk_t7 (List.mem_of_getElem? (i := 86) rfl)) rfl
theorem cw_X8_soonOf : sk_wok (sk_cw mX8_soonOf) = true := sk_okQ (sk_t7 (List.mem_of_getElem? (i := 172) rfl)) rfl
theorem cw_X8_sound : sk_wok (sk_cw mX8_sound) = true := sk_okQ (sk_t7 (List.mem_of_getElem? (i := 146) rfl)) rfl
theorem cw_X8_soundOf : sk_wok (sk_cw mX8_soundOf) = true := sk_okQ (sk_t7 (List.mem_of_getElem? (i := 160) rfl)) rfl
theorem cw_X8_span : sk_wok (sk_cw mX8_span) = true := sk_okQ (sk_t8 (List.mem_of_getElem? (i := 204) rfl)) rfl
theorem cw_X8_tell : sk_wok (sk_cw mX8_tell) = true := sk_okQ (sk_t8 (List.mem_of_getElem? (i := 9) rfl)) rfl
theorem cw_X8_tells : sk_wok (sk_cw mX8_tells) = true := sk_okQ (sk_t8 (List.mem_of_getElem? (i := 5) rfl)) rfl
theorem cw_X8_thrown : sk_wok (sk_cw mX8_thrown) = true := sk_okQ (sk_t6 (List.mem_of_getElem? (i := 69) rfl)) rfl
theorem cw_X8_throwsIf : sk_wok (sk_cw mX8_throwsIf) = true := sk_okQ (sk_t7 (List.mem_of_getElem? (i := 115) rfl)) rfl
theorem cw_X8_together : sk_wok (sk_cw mX8_together) = true := sk_okQ (sk_t8 (List.mem_of_getElem? (i := 96) rfl)) rfl
theorem cw_X8_trial : sk_wok (sk_cw mX8_trial) = true := sk_okQ (sk_t8 (List.mem_of_getElem? (i := 192) rfl)) rfl
theorem cw_X8_turn : sk_wok (sk_cw mX8_turn) = true := sk_okQ (sk_t7 (List.mem_of_getElem? (i := 225) rfl)) rfl
theorem cw_X8_turned : sk_wok (sk_cw mX8_turned) = true := sk_okQ (sk_t8 (List.mem_of_getElem? (i := 168) rfl)) rfl
theorem cw_X8_undo : sk_wok (sk_cw mX8_undo) = true := sk_okQ (sk_t6 (List.mem_of_getElem? (i := 172) rfl)) rfl
theorem cw_X8_unknown : sk_wok (sk_cw mX8_unknown) = true := sk_okQ (sk_t8 (List.mem_of_getElem? (i := 196) rfl)) rfl
theorem cw_X8_uses : sk_wok (sk_cw mX8_uses) = true := sk_okQ (sk_t6 (List.mem_of_getElem? (i := 196) rfl)) rfl
theorem cw_X8_vault : sk_wok (sk_cw mX8_vault) = true := sk_okQ (sk_t7 (List.mem_of_getElem? (i := 164) rfl)) rfl
theorem cw_X8_vaultTold : sk_wok (sk_cw mX8_vaultTold) = true := sk_okQ (sk_t7 (List.mem_of_getElem? (i := 61) rfl)) rfl
theorem cw_X8_vaults : sk_wok (sk_cw mX8_vaults) = true := sk_okQ (sk_t6 (List.mem_of_getElem? (i := 231) rfl)) rfl
theorem cw_X8_wheel : sk_wok (sk_cw mX8_wheel) = true := sk_okQ (sk_t7 (List.mem_of_getElem? (i := 213) rfl)) rfl
theorem cw_X8_when : sk_wok (sk_cw mX8_when) = true := sk_okQ (sk_t8 (List.mem_of_getElem? (i := 180) rfl)) rfl
theorem cw_X8_worst : sk_wok (sk_cw mX8_worst) = true := sk_okQ (sk_t8 (List.mem_of_getElem? (i := 63) rfl)) rfl
theorem cw_X8_worstBy : sk_wok (sk_cw mX8_worstBy) = true := sk_okQ (sk_t8 (List.mem_of_getElem? (i := 67) rfl)) rfl
theorem cw_X8_worthOf : sk_wok (sk_cw mX8_worthOf) = true := sk_okQ (sk_t8 (List.mem_of_getElem? (i := 160) rfl)) rfl
