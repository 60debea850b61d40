set_option maxRecDepth 30000 in
theorem ov_X8_all : okV yX8_all cX8_all 2 (some (.int)) 1 8 := ⟨mc5 8 rfl, mg 1 (by decide +kernel) rfl, mg 966 (by decide +kernel) rfl, mg 967 (by decide +kernel) rfl, ⟨by decide, by decide, by decide +kernel⟩, _, rfl, rfl⟩
set_option maxRecDepth 30000 in
theorem ov_X8_annul : okV yX8_annul cX8_annul 2 (some (.int)) 1 8 := ⟨mc3 168 rfl, mg 1 (by decide +kernel) rfl, mg 646 (by decide +kernel) rfl, mg 647 (by decide +kernel) rfl, ⟨by decide, by decide, by decide +kernel⟩, _, rfl, rfl⟩
set_option maxRecDepth 30000 in
theorem ov_X8_answer : okV yX8_answer cX8_answer 5 (some (.int)) 3 8 := ⟨mc3 139 rfl, mg 1 (by decide +kernel) rfl, mg 617 (by decide +kernel) rfl, mg 618 (by decide +kernel) rfl, ⟨by decide, by decide, by decide +kernel⟩, _, rfl, rfl⟩
set_option maxRecDepth 30000 in
theorem ov_X8_answers : okV yX8_answers cX8_answers 2 (some (.int)) 1 8 := ⟨mc3 189 rfl, mg 1 (by decide +kernel) rfl, mg 667 (by decide +kernel) rfl, mg 668 (by decide +kernel) rfl, ⟨by decide, by decide, by decide +kernel⟩, _, rfl, rfl⟩
set_option maxRecDepth 30000 in
theorem ov_X8_as : okV yX8_as cX8_as 2 (some (.boolean)) 1 8 := ⟨mc3 181 rfl, mg 1 (by decide +kernel) rfl, mg 659 (by decide +kernel) rfl, mg 660 (by decide +kernel) rfl, ⟨by decide, by decide, by decide +kernel⟩, _, rfl, rfl⟩
set_option maxRecDepth 30000 in
theorem ov_X8_chance : okV yX8_chance cX8_chance 4 (some (.long)) 2 8 := ⟨mc4 64 rfl, mg 1 (by decide +kernel) rfl, mg 782 (by decide +kernel) rfl, mg 783 (by decide +kernel) rfl, ⟨by decide, by decide, by decide +kernel⟩, _, rfl, rfl⟩
set_option maxRecDepth 30000 in
theorem ov_X8_claim : okV yX8_claim cX8_claim 2 (some (.int)) 1 8 := ⟨mc4 154 rfl, mg 1 (by decide +kernel) rfl, mg 872 (by decide +kernel) rfl, mg 873 (by decide +kernel) rfl, ⟨by decide, by decide, by decide +kernel⟩, _, rfl, rfl⟩
set_option maxRecDepth 30000 in
theorem ov_X8_code : okV yX8_code cX8_code 4 (some (.int)) 3 8 := ⟨mc3 127 rfl, mg 1 (by decide +kernel) rfl, mg 605 (by decide +kernel) rfl, mg 606 (by decide +kernel) rfl, ⟨by decide, by decide, by decide +kernel⟩, _, rfl, rfl⟩
set_option maxRecDepth 30000 in
theorem ov_X8_drift : okV yX8_drift cX8_drift 2 (some (.int)) 1 8 := ⟨mc4 144 rfl, mg 1 (by decide +kernel) rfl, mg 862 (by decide +kernel) rfl, mg 863 (by decide +kernel) rfl, ⟨by decide, by decide, by decide +kernel⟩, _, rfl, rfl⟩
set_option maxRecDepth 30000 in
theorem ov_X8_end : okV yX8_end cX8_end 2 (some (.boolean)) 1 8 := ⟨mc2 117 rfl, mg 1 (by decide +kernel) rfl, mg 355 (by decide +kernel) rfl, mg 356 (by decide +kernel) rfl, ⟨by decide, by decide, by decide +kernel⟩, _, rfl, rfl⟩
set_option maxRecDepth 30000 in
theorem ov_X8_fault : okV yX8_fault cX8_fault 2 (some (.int)) 1 8 := ⟨mc3 123 rfl, mg 1 (by decide +kernel) rfl, mg 601 (by decide +kernel) rfl, mg 602 (by decide +kernel) rfl, ⟨by decide, by decide, by decide +kernel⟩, _, rfl, rfl⟩
set_option maxRecDepth 30000 in
theorem ov_X8_feed : okV yX8_feed cX8_feed 6 (some (.int)) 5 8 := ⟨mc2 109 rfl, mg 1 (by decide +kernel) rfl, mg 347 (by decide +kernel) rfl, mg 348 (by decide +kernel) rfl, ⟨by decide, by decide, by decide +kernel⟩, _, rfl, rfl⟩
set_option maxRecDepth 30000 in
theorem ov_X8_guess : okV yX8_guess cX8_guess 4 (some (.long)) 3 8 := ⟨mc4 71 rfl, mg 1 (by decide +kernel) rfl, mg 789 (by decide +kernel) rfl, mg 790 (by decide +kernel) rfl, ⟨by decide, by decide, by decide +kernel⟩, _, rfl, rfl⟩
set_option maxRecDepth 30000 in
theorem ov_X8_inside : okV yX8_inside cX8_inside 4 (some (.int)) 2 8 := ⟨mc4 12 rfl, mg 1 (by decide +kernel) rfl, mg 730 (by decide +kernel) rfl, mg 731 (by decide +kernel) rfl, ⟨by decide, by decide, by decide +kernel⟩, _, rfl, rfl⟩
set_option maxRecDepth 30000 in
theorem os_X8_isInThousand : okS yX8_isInThousand cX8_isInThousand 1 (some (.boolean)) 1 := ⟨mc4 81 rfl, mg 1 (by decide +kernel) rfl, mg 800 (by decide +kernel) rfl, by decide, by decide, by decide +kernel⟩
set_option maxRecDepth 30000 in
theorem os_X8_isPartOf : okS yX8_isPartOf cX8_isPartOf 2 (some (.boolean)) 2 := ⟨mc4 74 rfl, mg 1 (by decide +kernel) rfl, mg 793 (by decide +kernel) rfl, by decide, by decide, by decide +kernel⟩
set_option maxRecDepth 30000 in
theorem ov_X8_isProduct : okV yX8_isProduct cX8_isProduct 2 (some (.boolean)) 1 8 := ⟨mc3 160 rfl, mg 1 (by decide +kernel) rfl, mg 639 (by decide +kernel) rfl, mp 29 11 (by decide +kernel), ⟨by decide, by decide, by decide +kernel⟩, _, rfl, rfl⟩
set_option maxRecDepth 30000 in
theorem os_X8_isSession : okS yX8_isSession cX8_isSession 1 (some (.boolean)) 1 := ⟨mc3 156 rfl, mg 1 (by decide +kernel) rfl, mg 635 (by decide +kernel) rfl, by decide, by decide, by decide +kernel⟩
set_option maxRecDepth 30000 in
theorem os_X8_isTaster : okS yX8_isTaster cX8_isTaster 1 (some (.boolean)) 1 := ⟨mc3 134 rfl, mg 1 (by decide +kernel) rfl, mg 613 (by decide +kernel) rfl, by decide, by decide, by decide +kernel⟩
set_option maxRecDepth 30000 in
theorem ov_X8_isTrial : okV yX8_isTrial cX8_isTrial 2 (some (.boolean)) 1 8 := ⟨mc3 131 rfl, mg 1 (by decide +kernel) rfl, mg 610 (by decide +kernel) rfl, mp 28 11 (by decide +kernel), ⟨by decide, by decide, by decide +kernel⟩, _, rfl, rfl⟩
set_option maxRecDepth 30000 in
theorem ov_X8_known : okV yX8_known cX8_known 1 (some (.int)) 0 8 := ⟨mc3 193 rfl, mg 1 (by decide +kernel) rfl, mg 672 (by decide +kernel) rfl, mp 30 11 (by decide +kernel), ⟨by decide, by decide, by decide +kernel⟩, _, rfl, rfl⟩
set_option maxRecDepth 30000 in
theorem ov_X8_mean : okV yX8_mean cX8_mean 2 (some (.int)) 1 8 := ⟨mc4 99 rfl, mg 1 (by decide +kernel) rfl, mg 817 (by decide +kernel) rfl, mg 818 (by decide +kernel) rfl, ⟨by decide, by decide, by decide +kernel⟩, _, rfl, rfl⟩
set_option maxRecDepth 30000 in
theorem ov_X8_needed : okV yX8_needed cX8_needed 5 (some (.int)) 4 8 := ⟨mc4 86 rfl, mg 1 (by decide +kernel) rfl, mg 804 (by decide +kernel) rfl, mg 805 (by decide +kernel) rfl, ⟨by decide, by decide, by decide +kernel⟩, _, rfl, rfl⟩
set_option maxRecDepth 30000 in
theorem ov_X8_open : okV yX8_open cX8_open 1 (some (.boolean)) 0 8 := ⟨mc3 185 rfl, mg 1 (by decide +kernel) rfl, mg 663 (by decide +kernel) rfl, mg 664 (by decide +kernel) rfl, ⟨by decide, by decide, by decide +kernel⟩, _, rfl, rfl⟩
set_option maxRecDepth 30000 in
theorem ov_X8_orders : okV yX8_orders cX8_orders 3 (some (.int)) 2 8 := ⟨mc4 195 rfl, mg 1 (by decide +kernel) rfl, mg 913 (by decide +kernel) rfl, mg 914 (by decide +kernel) rfl, ⟨by decide, by decide, by decide +kernel⟩, _, rfl, rfl⟩
set_option maxRecDepth 30000 in
theorem ov_X8_plan : okV yX8_plan cX8_plan 3 (some (.int)) 1 8 := ⟨mc2 121 rfl, mg 1 (by decide +kernel) rfl, mg 359 (by decide +kernel) rfl, mg 360 (by decide +kernel) rfl, ⟨by decide, by decide, by decide +kernel⟩, _, rfl, rfl⟩
set_option maxRecDepth 30000 in
theorem ov_X8_score : okV yX8_score cX8_score 5 (some (.int)) 4 8 := ⟨mc3 153 rfl, mg 1 (by decide +kernel) rfl, mg 631 (by decide +kernel) rfl, mg 632 (by decide +kernel) rfl, ⟨by decide, by decide, by decide +kernel⟩, _, rfl, rfl⟩
set_option maxRecDepth 30000 in
theorem ov_X8_scored : okV yX8_scored cX8_scored 4 (some (.int)) 3 8 := ⟨mc4 149 rfl, mg 1 (by decide +kernel) rfl, mg 867 (by decide +kernel) rfl, mg 868 (by decide +kernel) rfl, ⟨by decide, by decide, by decide +kernel⟩, _, rfl, rfl⟩
set_option maxRecDepth 30000 in
theorem ov_X8_served : okV yX8_served cX8_served 3 (some (.int)) 2 8 := ⟨mc4 236 rfl, mg 1 (by decide +kernel) rfl, mg 954 (by decide +kernel) rfl, mg 955 (by decide +kernel) rfl, ⟨by decide, by decide, by decide +kernel⟩, _, rfl, rfl⟩
set_option maxRecDepth 30000 in
theorem ov_X8_serves : okV yX8_serves cX8_serves 2 (some (.int)) 1 8 := ⟨mc5 0 rfl, mg 1 (by decide +kernel) rfl, mg 958 (by decide +kernel) rfl, mg 959 (by decide +kernel) rfl, ⟨by decide, by decide, by decide +kernel⟩, _, rfl, rfl⟩
set_option maxRecDepth 30000 in
theorem ov_X8_swap : okV yX8_swap cX8_swap 6 (some (.int)) 3 8 := ⟨mc3 164 rfl, mg 1 (by decide +kernel) rfl, mg 642 (by decide +kernel) rfl, mg 643 (by decide +kernel) rfl, ⟨by decide, by decide, by decide +kernel⟩, _, rfl, rfl⟩
set_option maxRecDepth 30000 in
theorem ov_X8_table : okV yX8_table cX8_table 5 (some (.long)) 4 8 := ⟨mc4 78 rfl, mg 1 (by decide +kernel) rfl, mg 796 (by decide +kernel) rfl, mg 797 (by decide +kernel) rfl, ⟨by decide, by decide, by decide +kernel⟩, _, rfl, rfl⟩
set_option maxRecDepth 30000 in
theorem ov_X8_trial : okV yX8_trial cX8_trial 3 (some (.int)) 2 8 := ⟨mc4 20 rfl, mg 1 (by decide +kernel) rfl, mg 738 (by decide +kernel) rfl, mg 739 (by decide +kernel) rfl, ⟨by decide, by decide, by decide +kernel⟩, _, rfl, rfl⟩
set_option maxRecDepth 30000 in
theorem ov_X0_above : okV yX0_above cX0_above 9 (some (.long)) 3 0 := ⟨mc4 2 rfl, mg 3 (by decide +kernel) rfl, mg 720 (by decide +kernel) rfl, mg 721 (by decide +kernel) rfl, ⟨by decide, by decide, by decide +kernel⟩, _, rfl, rfl⟩
set_option maxRecDepth 30000 in
theorem ov_X0_below : okV yX0_below cX0_below 6 (some (.long)) 2 0 := ⟨mc4 6 rfl, mg 3 (by decide +kernel) rfl, mg 724 (by decide +kernel) rfl, mg 725 (by decide +kernel) rfl, ⟨by decide, by decide, by decide +kernel⟩, _, rfl, rfl⟩
set_option maxRecDepth 30000 in
theorem ov_X0_fillRow : okV yX0_fillRow cX0_fillRow 10 none 3 0 := ⟨mc4 37 rfl, mg 3 (by decide +kernel) rfl, mg 756 (by decide +kernel) rfl, mp 38 1 (by decide +kernel), ⟨by decide, by decide, by decide +kernel⟩, _, rfl, rfl⟩
set_option maxRecDepth 30000 in
theorem ov_X0_inMillion : okV yX0_inMillion cX0_inMillion 12 (some (.int)) 3 0 := ⟨mc4 56 rfl, mg 3 (by decide +kernel) rfl, mg 774 (by decide +kernel) rfl, mg 775 (by decide +kernel) rfl, ⟨by decide, by decide, by decide +kernel⟩, _, rfl, rfl⟩
set_option maxRecDepth 30000 in
theorem ov_X0_isBelow : okV yX0_isBelow cX0_isBelow 6 (some (.boolean)) 5 0 := ⟨mc3 238 rfl, mg 3 (by decide +kernel) rfl, mg 716 (by decide +kernel) rfl, mg 717 (by decide +kernel) rfl, ⟨by decide, by decide, by decide +kernel⟩, _, rfl, rfl⟩
set_option maxRecDepth 30000 in
theorem ov_X0_isEnough : okV yX0_isEnough cX0_isEnough 9 (some (.boolean)) 4 0 := ⟨mc4 94 rfl, mg 3 (by decide +kernel) rfl, mg 813 (by decide +kernel) rfl, mp 39 1 (by decide +kernel), ⟨by decide, by decide, by decide +kernel⟩, _, rfl, rfl⟩
set_option maxRecDepth 30000 in
theorem ov_X0_leastShare : okV yX0_leastShare cX0_leastShare 8 (some (.int)) 3 0 := ⟨mc4 29 rfl, mg 3 (by decide +kernel) rfl, mg 747 (by decide +kernel) rfl, mg 748 (by decide +kernel) rfl, ⟨by decide, by decide, by decide +kernel⟩, _, rfl, rfl⟩
set_option maxRecDepth 30000 in
theorem ov_X0_mostShare : okV yX0_mostShare cX0_mostShare 8 (some (.int)) 3 0 := ⟨mc4 52 rfl, mg 3 (by decide +kernel) rfl, mg 770 (by decide +kernel) rfl, mg 771 (by decide +kernel) rfl, ⟨by decide, by decide, by decide +kernel⟩, _, rfl, rfl⟩
set_option maxRecDepth 30000 in
theorem ov_X0_sum : okV yX0_sum cX0_sum 9 (some (.long)) 5 0 := ⟨mc4 33 rfl, mg 3 (by decide +kernel) rfl, mg 751 (by decide +kernel) rfl, mg 752 (by decide +kernel) rfl, ⟨by decide, by decide, by decide +kernel⟩, _, rfl, rfl⟩
set_option maxRecDepth 30000 in
theorem ov_X0_tastersFor : okV yX0_tastersFor cX0_tastersFor 8 (some (.int)) 4 0 := ⟨mc4 90 rfl, mg 3 (by decide +kernel) rfl, mg 808 (by decide +kernel) rfl, mg 809 (by decide +kernel) rfl, ⟨by decide, by decide, by decide +kernel⟩, _, rfl, rfl⟩
set_option maxRecDepth 30000 in
theorem os_X1_bounded : okS yX1_bounded cX1_bounded 2 (some (.int)) 1 := ⟨mc4 182 rfl, mg 6 (by decide +kernel) rfl, mg 901 (by decide +kernel) rfl, by decide, by decide, by decide +kernel⟩
set_option maxRecDepth 30000 in
theorem ov_X1_holds : okV yX1_holds cX1_holds 9 (some (.boolean)) 3 1 := ⟨mc4 158 rfl, mg 6 (by decide +kernel) rfl, mg 876 (by decide +kernel) rfl, mg 877 (by decide +kernel) rfl, ⟨by decide, by decide, by decide +kernel⟩, _, rfl, rfl⟩
set_option maxRecDepth 30000 in
theorem os_X1_isPart : okS yX1_isPart cX1_isPart 1 (some (.boolean)) 1 := ⟨mc4 170 rfl, mg 6 (by decide +kernel) rfl, mg 889 (by decide +kernel) rfl, by decide, by decide, by decide +kernel⟩
set_option maxRecDepth 30000 in
theorem os_X1_joined : okS yX1_joined cX1_joined 3 (some (.int)) 3 := ⟨mc4 179 rfl, mg 6 (by decide +kernel) rfl, mg 898 (by decide +kernel) rfl, by decide, by decide, by decide +kernel⟩
set_option maxRecDepth 30000 in
theorem ov_X1_part : okV yX1_part cX1_part 5 (some (.int)) 4 1 := ⟨mc4 174 rfl, mg 6 (by decide +kernel) rfl, mg 893 (by decide +kernel) rfl, mp 46 4 (by decide +kernel), ⟨by decide, by decide, by decide +kernel⟩, _, rfl, rfl⟩
set_option maxRecDepth 30000 in
theorem ov_X1_pop : okV yX1_pop cX1_pop 1 (some (.int)) 0 1 := ⟨mc4 163 rfl, mg 6 (by decide +kernel) rfl, mg 882 (by decide +kernel) rfl, mp 44 4 (by decide +kernel), ⟨by decide, by decide, by decide +kernel⟩, _, rfl, rfl⟩
set_option maxRecDepth 30000 in
theorem ov_X1_push : okV yX1_push cX1_push 2 none 1 1 := ⟨mc4 167 rfl, mg 6 (by decide +kernel) rfl, mg 886 (by decide +kernel) rfl, mp 45 4 (by decide +kernel), ⟨by decide, by decide, by decide +kernel⟩, _, rfl, rfl⟩
set_option maxRecDepth 30000 in
theorem ov_X2_canBeVoid : okV yX2_canBeVoid cX2_canBeVoid 2 (some (.boolean)) 1 2 := ⟨mc3 172 rfl, mg 2 (by decide +kernel) rfl, mg 650 (by decide +kernel) rfl, mg 651 (by decide +kernel) rfl, ⟨by decide, by decide, by decide +kernel⟩, _, rfl, rfl⟩
set_option maxRecDepth 30000 in
theorem ov_X2_clear : okV yX2_clear cX2_clear 1 none 0 2 := ⟨mc3 118 rfl, mg 2 (by decide +kernel) rfl, mg 596 (by decide +kernel) rfl, mg 597 (by decide +kernel) rfl, ⟨by decide, by decide, by decide +kernel⟩, _, rfl, rfl⟩
set_option maxRecDepth 30000 in
theorem ov_X2_isFull : okV yX2_isFull cX2_isFull 1 (some (.boolean)) 0 2 := ⟨mc3 143 rfl, mg 2 (by decide +kernel) rfl, mg 621 (by decide +kernel) rfl, mg 622 (by decide +kernel) rfl, ⟨by decide, by decide, by decide +kernel⟩, _, rfl, rfl⟩
set_option maxRecDepth 30000 in
theorem ov_X2_isKnown : okV yX2_isKnown cX2_isKnown 4 (some (.boolean)) 3 2 := ⟨mc3 210 rfl, mg 2 (by decide +kernel) rfl, mg 688 (by decide +kernel) rfl, mg 689 (by decide +kernel) rfl, ⟨by decide, by decide, by decide +kernel⟩, _, rfl, rfl⟩
set_option maxRecDepth 30000 in
theorem ov_X2_note : okV yX2_note cX2_note 6 (some (.int)) 5 2 := ⟨mc3 147 rfl, mg 2 (by decide +kernel) rfl, mg 625 (by decide +kernel) rfl, mg 626 (by decide +kernel) rfl, ⟨by decide, by decide, by decide +kernel⟩, _, rfl, rfl⟩
set_option maxRecDepth 30000 in
theorem ov_X2_noteVoid : okV yX2_noteVoid cX2_noteVoid 3 (some (.int)) 1 2 := ⟨mc3 176 rfl, mg 2 (by decide +kernel) rfl, mg 654 (by decide +kernel) rfl, mg 655 (by decide +kernel) rfl, ⟨by decide, by decide, by decide +kernel⟩, _, rfl, rfl⟩
set_option maxRecDepth 30000 in
theorem ov_X3_addClaim : okV yX3_addClaim cX3_addClaim 3 none 1 3 := ⟨mc3 82 rfl, mg 8 (by decide +kernel) rfl, mg 560 (by decide +kernel) rfl, mg 561 (by decide +kernel) rfl, ⟨by decide, by decide, by decide +kernel⟩, _, rfl, rfl⟩
set_option maxRecDepth 30000 in
theorem ov_X3_addLook : okV yX3_addLook cX3_addLook 6 none 3 3 := ⟨mc3 14 rfl, mg 8 (by decide +kernel) rfl, mg 492 (by decide +kernel) rfl, mg 493 (by decide +kernel) rfl, ⟨by decide, by decide, by decide +kernel⟩, _, rfl, rfl⟩
set_option maxRecDepth 30000 in
theorem ov_X3_addProduct : okV yX3_addProduct cX3_addProduct 3 none 1 3 := ⟨mc2 221 rfl, mg 8 (by decide +kernel) rfl, mg 459 (by decide +kernel) rfl, mg 460 (by decide +kernel) rfl, ⟨by decide, by decide, by decide +kernel⟩, _, rfl, rfl⟩
set_option maxRecDepth 30000 in
theorem ov_X3_addStep : okV yX3_addStep cX3_addStep 3 none 2 3 := ⟨mc3 50 rfl, mg 8 (by decide +kernel) rfl, mg 528 (by decide +kernel) rfl, mg 529 (by decide +kernel) rfl, ⟨by decide, by decide, by decide +kernel⟩, _, rfl, rfl⟩
set_option maxRecDepth 30000 in
theorem ov_X3_addTrial : okV yX3_addTrial cX3_addTrial 2 none 1 3 := ⟨mc2 238 rfl, mg 8 (by decide +kernel) rfl, mg 476 (by decide +kernel) rfl, mg 477 (by decide +kernel) rfl, ⟨by decide, by decide, by decide +kernel⟩, _, rfl, rfl⟩
set_option maxRecDepth 30000 in
theorem ov_X3_allLooks : okV yX3_allLooks cX3_allLooks 3 (some (.int)) 0 3 := ⟨mc5 12 rfl, mg 8 (by decide +kernel) rfl, mg 970 (by decide +kernel) rfl, mg 971 (by decide +kernel) rfl, ⟨by decide, by decide, by decide +kernel⟩, _, rfl, rfl⟩
set_option maxRecDepth 30000 in
theorem ov_X3_answersAtLatestLook : okV yX3_answersAtLatestLook cX3_answersAtLatestLook 2 (some (.int)) 0 3 := ⟨mc3 6 rfl, mg 8 (by decide +kernel) rfl, mg 484 (by decide +kernel) rfl, mg 485 (by decide +kernel) rfl, ⟨by decide, by decide, by decide +kernel⟩, _, rfl, rfl⟩
set_option maxRecDepth 30000 in
theorem ov_X3_clear : okV yX3_clear cX3_clear 1 none 0 3 := ⟨mc2 129 rfl, mg 8 (by decide +kernel) rfl, mg 367 (by decide +kernel) rfl, mg 368 (by decide +kernel) rfl, ⟨by decide, by decide, by decide +kernel⟩, _, rfl, rfl⟩
set_option maxRecDepth 30000 in
theorem ov_X3_cupOf : okV yX3_cupOf cX3_cupOf 4 (some (.int)) 2 3 := ⟨mc3 114 rfl, mg 8 (by decide +kernel) rfl, mg 592 (by decide +kernel) rfl, mg 593 (by decide +kernel) rfl, ⟨by decide, by decide, by decide +kernel⟩, _, rfl, rfl⟩
set_option maxRecDepth 30000 in
theorem ov_X3_cups : okV yX3_cups cX3_cups 2 (some (.int)) 1 3 := ⟨mc3 97 rfl, mg 8 (by decide +kernel) rfl, mg 575 (by decide +kernel) rfl, mg 576 (by decide +kernel) rfl, ⟨by decide, by decide, by decide +kernel⟩, _, rfl, rfl⟩
set_option maxRecDepth 30000 in
theorem ov_X3_freeCode : okV yX3_freeCode cX3_freeCode 5 (some (.int)) 2 3 := ⟨mc3 110 rfl, mg 8 (by decide +kernel) rfl, mg 589 (by decide +kernel) rfl, mp 27 16 (by decide +kernel), ⟨by decide, by decide, by decide +kernel⟩, _, rfl, rfl⟩
set_option maxRecDepth 30000 in
theorem ov_X3_hasName : okV yX3_hasName cX3_hasName 4 (some (.boolean)) 1 3 := ⟨mc2 213 rfl, mg 8 (by decide +kernel) rfl, mg 451 (by decide +kernel) rfl, mg 452 (by decide +kernel) rfl, ⟨by decide, by decide, by decide +kernel⟩, _, rfl, rfl⟩
set_option maxRecDepth 30000 in
theorem ov_X3_layCodes : okV yX3_layCodes cX3_layCodes 6 none 1 3 := ⟨mc3 90 rfl, mg 8 (by decide +kernel) rfl, mg 568 (by decide +kernel) rfl, mg 569 (by decide +kernel) rfl, ⟨by decide, by decide, by decide +kernel⟩, _, rfl, rfl⟩
set_option maxRecDepth 30000 in
theorem ov_X3_places : okV yX3_places cX3_places 2 (some (.int)) 1 3 := ⟨mc3 101 rfl, mg 8 (by decide +kernel) rfl, mg 579 (by decide +kernel) rfl, mg 580 (by decide +kernel) rfl, ⟨by decide, by decide, by decide +kernel⟩, _, rfl, rfl⟩
set_option maxRecDepth 30000 in
theorem ov_X3_productNamed : okV yX3_productNamed cX3_productNamed 4 (some (.int)) 1 3 := ⟨mc2 217 rfl, mg 8 (by decide +kernel) rfl, mg 455 (by decide +kernel) rfl, mg 456 (by decide +kernel) rfl, ⟨by decide, by decide, by decide +kernel⟩, _, rfl, rfl⟩
set_option maxRecDepth 30000 in
theorem ov_X4_append : okV yX4_append cX4_append 3 none 1 4 := ⟨mc2 113 rfl, mg 7 (by decide +kernel) rfl, mg 351 (by decide +kernel) rfl, mg 352 (by decide +kernel) rfl, ⟨by decide, by decide, by decide +kernel⟩, _, rfl, rfl⟩
set_option maxRecDepth 30000 in
theorem ov_X4_enter : okV yX4_enter cX4_enter 1 (some (.boolean)) 0 4 := ⟨mc3 46 rfl, mg 7 (by decide +kernel) rfl, mg 525 (by decide +kernel) rfl, mp 19 10 (by decide +kernel), ⟨by decide, by decide, by decide +kernel⟩, _, rfl, rfl⟩
set_option maxRecDepth 30000 in
theorem ov_X4_expectSign : okV yX4_expectSign cX4_expectSign 2 none 1 4 := ⟨mc3 54 rfl, mg 7 (by decide +kernel) rfl, mg 533 (by decide +kernel) rfl, mp 20 10 (by decide +kernel), ⟨by decide, by decide, by decide +kernel⟩, _, rfl, rfl⟩
set_option maxRecDepth 30000 in
theorem ov_X4_expectWord : okV yX4_expectWord cX4_expectWord 2 none 1 4 := ⟨mc2 234 rfl, mg 7 (by decide +kernel) rfl, mg 473 (by decide +kernel) rfl, mp 9 10 (by decide +kernel), ⟨by decide, by decide, by decide +kernel⟩, _, rfl, rfl⟩
set_option maxRecDepth 30000 in
theorem ov_X4_fail : okV yX4_fail cX4_fail 3 none 2 4 := ⟨mc2 201 rfl, mg 7 (by decide +kernel) rfl, mg 440 (by decide +kernel) rfl, mp 4 10 (by decide +kernel), ⟨by decide, by decide, by decide +kernel⟩, _, rfl, rfl⟩
set_option maxRecDepth 30000 in
theorem os_X4_kindOf : okS yX4_kindOf cX4_kindOf 1 (some (.int)) 1 := ⟨mc2 136 rfl, mg 7 (by decide +kernel) rfl, mg 375 (by decide +kernel) rfl, by decide, by decide, by decide +kernel⟩
set_option maxRecDepth 30000 in
theorem ov_X4_ownWord : okV yX4_ownWord cX4_ownWord 6 (some (.int)) 0 4 := ⟨mc2 140 rfl, mg 7 (by decide +kernel) rfl, mg 379 (by decide +kernel) rfl, mp 1 10 (by decide +kernel), ⟨by decide, by decide, by decide +kernel⟩, _, rfl, rfl⟩
set_option maxRecDepth 30000 in
theorem ov_X4_readBoth : okV yX4_readBoth cX4_readBoth 2 none 0 4 := ⟨mc3 38 rfl, mg 7 (by decide +kernel) rfl, mg 517 (by decide +kernel) rfl, mp 17 10 (by decide +kernel), ⟨by decide, by decide, by decide +kernel⟩, _, rfl, rfl⟩
set_option maxRecDepth 30000 in
theorem ov_X4_readClaim : okV yX4_readClaim cX4_readClaim 3 none 0 4 := ⟨mc3 30 rfl, mg 7 (by decide +kernel) rfl, mg 509 (by decide +kernel) rfl, mp 15 10 (by decide +kernel), ⟨by decide, by decide, by decide +kernel⟩, _, rfl, rfl⟩
set_option maxRecDepth 30000 in
theorem ov_X4_readComparison : okV yX4_readComparison cX4_readComparison 2 none 0 4 := ⟨mc3 62 rfl, mg 7 (by decide +kernel) rfl, mg 541 (by decide +kernel) rfl, mp 22 10 (by decide +kernel), ⟨by decide, by decide, by decide +kernel⟩, _, rfl, rfl⟩
set_option maxRecDepth 30000 in
theorem ov_X4_readFact : okV yX4_readFact cX4_readFact 1 none 0 4 := ⟨mc3 42 rfl, mg 7 (by decide +kernel) rfl, mg 521 (by decide +kernel) rfl, mp 18 10 (by decide +kernel), ⟨by decide, by decide, by decide +kernel⟩, _, rfl, rfl⟩
set_option maxRecDepth 30000 in
theorem ov_X4_readInParentheses : okV yX4_readInParentheses cX4_readInParentheses 2 none 1 4 := ⟨mc3 78 rfl, mg 7 (by decide +kernel) rfl, mg 557 (by decide +kernel) rfl, mp 26 10 (by decide +kernel), ⟨by decide, by decide, by decide +kernel⟩, _, rfl, rfl⟩
set_option maxRecDepth 30000 in
theorem ov_X4_readLook : okV yX4_readLook cX4_readLook 4 none 0 4 := ⟨mc3 2 rfl, mg 7 (by decide +kernel) rfl, mg 481 (by decide +kernel) rfl, mp 10 10 (by decide +kernel), ⟨by decide, by decide, by decide +kernel⟩, _, rfl, rfl⟩
set_option maxRecDepth 30000 in
theorem ov_X4_readOfTrial : okV yX4_readOfTrial cX4_readOfTrial 2 none 0 4 := ⟨mc3 58 rfl, mg 7 (by decide +kernel) rfl, mg 537 (by decide +kernel) rfl, mp 21 10 (by decide +kernel), ⟨by decide, by decide, by decide +kernel⟩, _, rfl, rfl⟩
set_option maxRecDepth 30000 in
theorem ov_X4_readPart : okV yX4_readPart cX4_readPart 2 none 0 4 := ⟨mc3 74 rfl, mg 7 (by decide +kernel) rfl, mg 553 (by decide +kernel) rfl, mp 25 10 (by decide +kernel), ⟨by decide, by decide, by decide +kernel⟩, _, rfl, rfl⟩
set_option maxRecDepth 30000 in
theorem ov_X4_readPlan : okV yX4_readPlan cX4_readPlan 3 (some (.int)) 0 4 := ⟨mc2 125 rfl, mg 7 (by decide +kernel) rfl, mg 363 (by decide +kernel) rfl, mg 364 (by decide +kernel) rfl, ⟨by decide, by decide, by decide +kernel⟩, _, rfl, rfl⟩
set_option maxRecDepth 30000 in
theorem ov_X4_readProduct : okV yX4_readProduct cX4_readProduct 3 none 0 4 := ⟨mc2 193 rfl, mg 7 (by decide +kernel) rfl, mg 432 (by decide +kernel) rfl, mp 2 10 (by decide +kernel), ⟨by decide, by decide, by decide +kernel⟩, _, rfl, rfl⟩
set_option maxRecDepth 30000 in
theorem ov_X4_readReference : okV yX4_readReference cX4_readReference 2 none 0 4 := ⟨mc3 26 rfl, mg 7 (by decide +kernel) rfl, mg 505 (by decide +kernel) rfl, mp 14 10 (by decide +kernel), ⟨by decide, by decide, by decide +kernel⟩, _, rfl, rfl⟩
set_option maxRecDepth 30000 in
theorem ov_X4_readScale : okV yX4_readScale cX4_readScale 1 none 0 4 := ⟨mc3 22 rfl, mg 7 (by decide +kernel) rfl, mg 501 (by decide +kernel) rfl, mp 13 10 (by decide +kernel), ⟨by decide, by decide, by decide +kernel⟩, _, rfl, rfl⟩
set_option maxRecDepth 30000 in
theorem ov_X4_readSum : okV yX4_readSum cX4_readSum 3 none 0 4 := ⟨mc3 66 rfl, mg 7 (by decide +kernel) rfl, mg 545 (by decide +kernel) rfl, mp 23 10 (by decide +kernel), ⟨by decide, by decide, by decide +kernel⟩, _, rfl, rfl⟩
set_option maxRecDepth 30000 in
theorem ov_X4_readTerm : okV yX4_readTerm cX4_readTerm 3 none 0 4 := ⟨mc3 70 rfl, mg 7 (by decide +kernel) rfl, mg 549 (by decide +kernel) rfl, mp 24 10 (by decide +kernel), ⟨by decide, by decide, by decide +kernel⟩, _, rfl, rfl⟩
set_option maxRecDepth 30000 in
theorem ov_X4_readTest : okV yX4_readTest cX4_readTest 2 none 0 4 := ⟨mc3 34 rfl, mg 7 (by decide +kernel) rfl, mg 513 (by decide +kernel) rfl, mp 16 10 (by decide +kernel), ⟨by decide, by decide, by decide +kernel⟩, _, rfl, rfl⟩
set_option maxRecDepth 30000 in
theorem ov_X4_readTies : okV yX4_readTies cX4_readTies 1 none 0 4 := ⟨mc3 18 rfl, mg 7 (by decide +kernel) rfl, mg 497 (by decide +kernel) rfl, mp 12 10 (by decide +kernel), ⟨by decide, by decide, by decide +kernel⟩, _, rfl, rfl⟩
set_option maxRecDepth 30000 in
theorem ov_X4_readToken : okV yX4_readToken cX4_readToken 3 none 0 4 := ⟨mc2 133 rfl, mg 7 (by decide +kernel) rfl, mg 372 (by decide +kernel) rfl, mp 0 10 (by decide +kernel), ⟨by decide, by decide, by decide +kernel⟩, _, rfl, rfl⟩
set_option maxRecDepth 30000 in
theorem ov_X4_readTrial : okV yX4_readTrial cX4_readTrial 3 none 1 4 := ⟨mc2 225 rfl, mg 7 (by decide +kernel) rfl, mg 464 (by decide +kernel) rfl, mp 7 10 (by decide +kernel), ⟨by decide, by decide, by decide +kernel⟩, _, rfl, rfl⟩
set_option maxRecDepth 30000 in
theorem ov_X4_refuseMore : okV yX4_refuseMore cX4_refuseMore 3 none 2 4 := ⟨mc2 197 rfl, mg 7 (by decide +kernel) rfl, mg 436 (by decide +kernel) rfl, mp 3 10 (by decide +kernel), ⟨by decide, by decide, by decide +kernel⟩, _, rfl, rfl⟩
set_option maxRecDepth 30000 in
theorem ov_X4_takeName : okV yX4_takeName cX4_takeName 4 (some (.long)) 0 4 := ⟨mc2 209 rfl, mg 7 (by decide +kernel) rfl, mg 448 (by decide +kernel) rfl, mp 6 10 (by decide +kernel), ⟨by decide, by decide, by decide +kernel⟩, _, rfl, rfl⟩
set_option maxRecDepth 30000 in
theorem ov_X4_takeNewName : okV yX4_takeNewName cX4_takeNewName 4 (some (.long)) 0 4 := ⟨mc2 205 rfl, mg 7 (by decide +kernel) rfl, mg 444 (by decide +kernel) rfl, mp 5 10 (by decide +kernel), ⟨by decide, by decide, by decide +kernel⟩, _, rfl, rfl⟩
set_option maxRecDepth 30000 in
theorem ov_X4_takeNumber : okV yX4_takeNumber cX4_takeNumber 5 (some (.int)) 2 4 := ⟨mc3 10 rfl, mg 7 (by decide +kernel) rfl, mg 489 (by decide +kernel) rfl, mp 11 10 (by decide +kernel), ⟨by decide, by decide, by decide +kernel⟩, _, rfl, rfl⟩
set_option maxRecDepth 30000 in
theorem ov_X4_takeProduct : okV yX4_takeProduct cX4_takeProduct 4 (some (.int)) 1 4 := ⟨mc2 229 rfl, mg 7 (by decide +kernel) rfl, mg 468 (by decide +kernel) rfl, mp 8 10 (by decide +kernel), ⟨by decide, by decide, by decide +kernel⟩, _, rfl, rfl⟩
set_option maxRecDepth 30000 in
theorem ov_X4_trade : okV yX4_trade cX4_trade 3 (some (.object "TastingHouse$Plan")) 1 4 := ⟨mc3 86 rfl, mg 7 (by decide +kernel) rfl, mg 564 (by decide +kernel) rfl, mg 565 (by decide +kernel) rfl, ⟨by decide, by decide, by decide +kernel⟩, _, rfl, rfl⟩
set_option maxRecDepth 30000 in
theorem os_X5_cell : okS yX5_cell cX5_cell 3 (some (.int)) 3 := ⟨mc4 108 rfl, mg 5 (by decide +kernel) rfl, mg 827 (by decide +kernel) rfl, by decide, by decide, by decide +kernel⟩
set_option maxRecDepth 30000 in
theorem ov_X5_countIn : okV yX5_countIn cX5_countIn 5 (some (.int)) 2 5 := ⟨mc4 124 rfl, mg 5 (by decide +kernel) rfl, mg 843 (by decide +kernel) rfl, mp 42 6 (by decide +kernel), ⟨by decide, by decide, by decide +kernel⟩, _, rfl, rfl⟩
set_option maxRecDepth 30000 in
theorem ov_X5_fill : okV yX5_fill cX5_fill 4 none 2 5 := ⟨mc4 103 rfl, mg 5 (by decide +kernel) rfl, mg 821 (by decide +kernel) rfl, mg 822 (by decide +kernel) rfl, ⟨by decide, by decide, by decide +kernel⟩, _, rfl, rfl⟩
set_option maxRecDepth 30000 in
theorem ov_X5_findDrifts : okV yX5_findDrifts cX5_findDrifts 7 none 1 5 := ⟨mc4 120 rfl, mg 5 (by decide +kernel) rfl, mg 839 (by decide +kernel) rfl, mp 41 6 (by decide +kernel), ⟨by decide, by decide, by decide +kernel⟩, _, rfl, rfl⟩
set_option maxRecDepth 30000 in
theorem ov_X5_meanOf : okV yX5_meanOf cX5_meanOf 6 (some (.int)) 1 5 := ⟨mc4 139 rfl, mg 5 (by decide +kernel) rfl, mg 857 (by decide +kernel) rfl, mg 858 (by decide +kernel) rfl, ⟨by decide, by decide, by decide +kernel⟩, _, rfl, rfl⟩
set_option maxRecDepth 30000 in
theorem ov_X5_scaled : okV yX5_scaled cX5_scaled 6 (some (.int)) 3 5 := ⟨mc4 128 rfl, mg 5 (by decide +kernel) rfl, mg 846 (by decide +kernel) rfl, mg 847 (by decide +kernel) rfl, ⟨by decide, by decide, by decide +kernel⟩, _, rfl, rfl⟩
set_option maxRecDepth 30000 in
theorem ov_X5_sumIn : okV yX5_sumIn cX5_sumIn 6 (some (.int)) 2 5 := ⟨mc4 132 rfl, mg 5 (by decide +kernel) rfl, mg 851 (by decide +kernel) rfl, mp 43 6 (by decide +kernel), ⟨by decide, by decide, by decide +kernel⟩, _, rfl, rfl⟩
set_option maxRecDepth 30000 in
theorem ov_X5_write : okV yX5_write cX5_write 4 none 3 5 := ⟨mc4 112 rfl, mg 5 (by decide +kernel) rfl, mg 831 (by decide +kernel) rfl, mp 40 6 (by decide +kernel), ⟨by decide, by decide, by decide +kernel⟩, _, rfl, rfl⟩
set_option maxRecDepth 30000 in
theorem ov_X6_append : okV yX6_append cX6_append 3 none 1 6 := ⟨mc4 224 rfl, mg 9 (by decide +kernel) rfl, mg 943 (by decide +kernel) rfl, mp 51 7 (by decide +kernel), ⟨by decide, by decide, by decide +kernel⟩, _, rfl, rfl⟩
set_option maxRecDepth 30000 in
theorem ov_X6_exchange : okV yX6_exchange cX6_exchange 4 none 2 6 := ⟨mc4 220 rfl, mg 9 (by decide +kernel) rfl, mg 939 (by decide +kernel) rfl, mp 50 7 (by decide +kernel), ⟨by decide, by decide, by decide +kernel⟩, _, rfl, rfl⟩
set_option maxRecDepth 30000 in
theorem ov_X6_findBest : okV yX6_findBest cX6_findBest 5 none 0 6 := ⟨mc4 204 rfl, mg 9 (by decide +kernel) rfl, mg 923 (by decide +kernel) rfl, mp 47 7 (by decide +kernel), ⟨by decide, by decide, by decide +kernel⟩, _, rfl, rfl⟩
set_option maxRecDepth 30000 in
theorem ov_X6_lay : okV yX6_lay cX6_lay 4 (some (.int)) 2 6 := ⟨mc4 199 rfl, mg 9 (by decide +kernel) rfl, mg 917 (by decide +kernel) rfl, mg 918 (by decide +kernel) rfl, ⟨by decide, by decide, by decide +kernel⟩, _, rfl, rfl⟩
set_option maxRecDepth 30000 in
theorem ov_X6_layByHand : okV yX6_layByHand cX6_layByHand 4 (some (.int)) 1 6 := ⟨mc5 4 rfl, mg 9 (by decide +kernel) rfl, mg 962 (by decide +kernel) rfl, mg 963 (by decide +kernel) rfl, ⟨by decide, by decide, by decide +kernel⟩, _, rfl, rfl⟩
set_option maxRecDepth 30000 in
theorem ov_X6_nextRow : okV yX6_nextRow cX6_nextRow 5 (some (.boolean)) 0 6 := ⟨mc4 216 rfl, mg 9 (by decide +kernel) rfl, mg 935 (by decide +kernel) rfl, mp 49 7 (by decide +kernel), ⟨by decide, by decide, by decide +kernel⟩, _, rfl, rfl⟩
set_option maxRecDepth 30000 in
theorem ov_X6_squareOfGap : okV yX6_squareOfGap cX6_squareOfGap 3 (some (.int)) 1 6 := ⟨mc4 232 rfl, mg 9 (by decide +kernel) rfl, mg 951 (by decide +kernel) rfl, mp 53 7 (by decide +kernel), ⟨by decide, by decide, by decide +kernel⟩, _, rfl, rfl⟩
set_option maxRecDepth 30000 in
theorem ov_X6_sumOfCounts : okV yX6_sumOfCounts cX6_sumOfCounts 3 (some (.int)) 0 6 := ⟨mc4 209 rfl, mg 9 (by decide +kernel) rfl, mg 928 (by decide +kernel) rfl, mp 48 7 (by decide +kernel), ⟨by decide, by decide, by decide +kernel⟩, _, rfl, rfl⟩
set_option maxRecDepth 30000 in
theorem ov_X6_unevenness : okV yX6_unevenness cX6_unevenness 5 (some (.int)) 0 6 := ⟨mc4 228 rfl, mg 9 (by decide +kernel) rfl, mg 947 (by decide +kernel) rfl, mp 52 7 (by decide +kernel), ⟨by decide, by decide, by decide +kernel⟩, _, rfl, rfl⟩
set_option maxRecDepth 30000 in
theorem ov_X7_clear : okV yX7_clear cX7_clear 2 none 0 7 := ⟨mc3 218 rfl, mg 4 (by decide +kernel) rfl, mg 697 (by decide +kernel) rfl, mp 33 11 (by decide +kernel), ⟨by decide, by decide, by decide +kernel⟩, _, rfl, rfl⟩
set_option maxRecDepth 30000 in
theorem ov_X7_contentOf : okV yX7_contentOf cX7_contentOf 5 (some (.int)) 4 7 := ⟨mc4 16 rfl, mg 4 (by decide +kernel) rfl, mg 734 (by decide +kernel) rfl, mg 735 (by decide +kernel) rfl, ⟨by decide, by decide, by decide +kernel⟩, _, rfl, rfl⟩
set_option maxRecDepth 30000 in
theorem ov_X7_count : okV yX7_count cX7_count 2 none 1 7 := ⟨mc3 230 rfl, mg 4 (by decide +kernel) rfl, mg 709 (by decide +kernel) rfl, mp 36 11 (by decide +kernel), ⟨by decide, by decide, by decide +kernel⟩, _, rfl, rfl⟩
set_option maxRecDepth 30000 in
theorem ov_X7_exchange : okV yX7_exchange cX7_exchange 4 none 2 7 := ⟨mc3 214 rfl, mg 4 (by decide +kernel) rfl, mg 693 (by decide +kernel) rfl, mp 32 11 (by decide +kernel), ⟨by decide, by decide, by decide +kernel⟩, _, rfl, rfl⟩
set_option maxRecDepth 30000 in
theorem ov_X7_hear : okV yX7_hear cX7_hear 6 none 3 7 := ⟨mc3 222 rfl, mg 4 (by decide +kernel) rfl, mg 701 (by decide +kernel) rfl, mp 34 11 (by decide +kernel), ⟨by decide, by decide, by decide +kernel⟩, _, rfl, rfl⟩
set_option maxRecDepth 30000 in
theorem ov_X7_likeCups : okV yX7_likeCups cX7_likeCups 6 (some (.int)) 3 7 := ⟨mc3 226 rfl, mg 4 (by decide +kernel) rfl, mg 705 (by decide +kernel) rfl, mp 35 11 (by decide +kernel), ⟨by decide, by decide, by decide +kernel⟩, _, rfl, rfl⟩
set_option maxRecDepth 30000 in
theorem ov_X7_lookThatStops : okV yX7_lookThatStops cX7_lookThatStops 6 (some (.int)) 2 7 := ⟨mc3 234 rfl, mg 4 (by decide +kernel) rfl, mg 713 (by decide +kernel) rfl, mp 37 11 (by decide +kernel), ⟨by decide, by decide, by decide +kernel⟩, _, rfl, rfl⟩
set_option maxRecDepth 30000 in
theorem ov_X7_measure : okV yX7_measure cX7_measure 6 (some (.int)) 4 7 := ⟨mc4 24 rfl, mg 4 (by decide +kernel) rfl, mg 742 (by decide +kernel) rfl, mg 743 (by decide +kernel) rfl, ⟨by decide, by decide, by decide +kernel⟩, _, rfl, rfl⟩
set_option maxRecDepth 30000 in
theorem ov_X7_pour : okV yX7_pour cX7_pour 6 none 3 7 := ⟨mc3 201 rfl, mg 4 (by decide +kernel) rfl, mg 680 (by decide +kernel) rfl, mp 31 11 (by decide +kernel), ⟨by decide, by decide, by decide +kernel⟩, _, rfl, rfl⟩
set_option maxRecDepth 30000 in
theorem ov_X7_tally : okV yX7_tally cX7_tally 8 none 4 7 := ⟨mc3 197 rfl, mg 4 (by decide +kernel) rfl, mg 675 (by decide +kernel) rfl, mg 676 (by decide +kernel) rfl, ⟨by decide, by decide, by decide +kernel⟩, _, rfl, rfl⟩
set_option maxRecDepth 30000 in
theorem ov_X9_act : okV yX9_act cX9_act 6 (some (.int)) 5 9 := ⟨mc7 70 rfl, mg 10 (by decide +kernel) rfl, mg 1509 (by decide +kernel) rfl, mp 90 113 (by decide +kernel), ⟨by decide, by decide, by decide +kernel⟩, _, rfl, rfl⟩
set_option maxRecDepth 30000 in
theorem ov_X9_all : okV yX9_all cX9_all 4 (some (.int)) 1 9 := ⟨mc8 52 rfl, mg 10 (by decide +kernel) rfl, mg 1730 (by decide +kernel) rfl, mg 1731 (by decide +kernel) rfl, ⟨by decide, by decide, by decide +kernel⟩, _, rfl, rfl⟩
set_option maxRecDepth 30000 in
theorem ov_X9_annul : okV yX9_annul cX9_annul 2 (some (.int)) 1 9 := ⟨mc7 88 rfl, mg 10 (by decide +kernel) rfl, mg 1526 (by decide +kernel) rfl, mg 1527 (by decide +kernel) rfl, ⟨by decide, by decide, by decide +kernel⟩, _, rfl, rfl⟩
set_option maxRecDepth 30000 in
theorem ov_X9_answer : okV yX9_answer cX9_answer 5 (some (.int)) 3 9 := ⟨mc7 66 rfl, mg 10 (by decide +kernel) rfl, mg 1504 (by decide +kernel) rfl, mg 1505 (by decide +kernel) rfl, ⟨by decide, by decide, by decide +kernel⟩, _, rfl, rfl⟩
set_option maxRecDepth 30000 in
theorem ov_X9_answers : okV yX9_answers cX9_answers 2 (some (.int)) 1 9 := ⟨mc7 120 rfl, mg 10 (by decide +kernel) rfl, mg 1558 (by decide +kernel) rfl, mg 1559 (by decide +kernel) rfl, ⟨by decide, by decide, by decide +kernel⟩, _, rfl, rfl⟩
set_option maxRecDepth 30000 in
theorem ov_X9_as : okV yX9_as cX9_as 2 (some (.boolean)) 1 9 := ⟨mc7 92 rfl, mg 10 (by decide +kernel) rfl, mg 1530 (by decide +kernel) rfl, mg 1531 (by decide +kernel) rfl, ⟨by decide, by decide, by decide +kernel⟩, _, rfl, rfl⟩
set_option maxRecDepth 30000 in
theorem ov_X9_asks : okV yX9_asks cX9_asks 2 none 1 9 := ⟨mc6 183 rfl, mg 10 (by decide +kernel) rfl, mg 1382 (by decide +kernel) rfl, mp 65 113 (by decide +kernel), ⟨by decide, by decide, by decide +kernel⟩, _, rfl, rfl⟩
set_option maxRecDepth 30000 in
theorem ov_X9_asksSign : okV yX9_asksSign cX9_asksSign 2 none 1 9 := ⟨mc6 229 rfl, mg 10 (by decide +kernel) rfl, mg 1428 (by decide +kernel) rfl, mp 75 113 (by decide +kernel), ⟨by decide, by decide, by decide +kernel⟩, _, rfl, rfl⟩
set_option maxRecDepth 30000 in
theorem ov_X9_chance : okV yX9_chance cX9_chance 3 (some (.long)) 2 9 := ⟨mc7 203 rfl, mg 10 (by decide +kernel) rfl, mg 1641 (by decide +kernel) rfl, mg 1642 (by decide +kernel) rfl, ⟨by decide, by decide, by decide +kernel⟩, _, rfl, rfl⟩
set_option maxRecDepth 30000 in
theorem ov_X9_claim : okV yX9_claim cX9_claim 4 (some (.int)) 1 9 := ⟨mc8 8 rfl, mg 10 (by decide +kernel) rfl, mg 1686 (by decide +kernel) rfl, mg 1687 (by decide +kernel) rfl, ⟨by decide, by decide, by decide +kernel⟩, _, rfl, rfl⟩
set_option maxRecDepth 30000 in
theorem ov_X9_claimTold : okV yX9_claimTold cX9_claimTold 3 none 0 9 := ⟨mc6 201 rfl, mg 10 (by decide +kernel) rfl, mg 1400 (by decide +kernel) rfl, mp 68 113 (by decide +kernel), ⟨by decide, by decide, by decide +kernel⟩, _, rfl, rfl⟩
set_option maxRecDepth 30000 in
theorem os_X9_clip : okS yX9_clip cX9_clip 2 (some (.long)) 1 := ⟨mc8 19 rfl, mg 10 (by decide +kernel) rfl, mg 1698 (by decide +kernel) rfl, by decide, by decide, by decide +kernel⟩
set_option maxRecDepth 30000 in
theorem ov_X9_code : okV yX9_code cX9_code 4 (some (.int)) 3 9 := ⟨mc7 54 rfl, mg 10 (by decide +kernel) rfl, mg 1492 (by decide +kernel) rfl, mg 1493 (by decide +kernel) rfl, ⟨by decide, by decide, by decide +kernel⟩, _, rfl, rfl⟩
set_option maxRecDepth 30000 in
theorem ov_X9_codesOf : okV yX9_codesOf cX9_codesOf 6 none 1 9 := ⟨mc7 37 rfl, mg 10 (by decide +kernel) rfl, mg 1476 (by decide +kernel) rfl, mp 87 113 (by decide +kernel), ⟨by decide, by decide, by decide +kernel⟩, _, rfl, rfl⟩
set_option maxRecDepth 30000 in
theorem ov_X9_counts : okV yX9_counts cX9_counts 6 none 2 9 := ⟨mc7 124 rfl, mg 10 (by decide +kernel) rfl, mg 1563 (by decide +kernel) rfl, mp 95 113 (by decide +kernel), ⟨by decide, by decide, by decide +kernel⟩, _, rfl, rfl⟩
set_option maxRecDepth 30000 in
theorem ov_X9_cupOf : okV yX9_cupOf cX9_cupOf 4 (some (.int)) 2 9 := ⟨mc7 74 rfl, mg 10 (by decide +kernel) rfl, mg 1513 (by decide +kernel) rfl, mp 91 113 (by decide +kernel), ⟨by decide, by decide, by decide +kernel⟩, _, rfl, rfl⟩
set_option maxRecDepth 30000 in
theorem ov_X9_drift : okV yX9_drift cX9_drift 2 (some (.int)) 1 9 := ⟨mc8 3 rfl, mg 10 (by decide +kernel) rfl, mg 1681 (by decide +kernel) rfl, mg 1682 (by decide +kernel) rfl, ⟨by decide, by decide, by decide +kernel⟩, _, rfl, rfl⟩
set_option maxRecDepth 30000 in
theorem ov_X9_driftOf : okV yX9_driftOf cX9_driftOf 5 (some (.int)) 1 9 := ⟨mc7 215 rfl, mg 10 (by decide +kernel) rfl, mg 1654 (by decide +kernel) rfl, mp 106 113 (by decide +kernel), ⟨by decide, by decide, by decide +kernel⟩, _, rfl, rfl⟩
set_option maxRecDepth 30000 in
theorem ov_X9_drops : okV yX9_drops cX9_drops 1 none 0 9 := ⟨mc7 13 rfl, mg 10 (by decide +kernel) rfl, mg 1452 (by decide +kernel) rfl, mp 81 113 (by decide +kernel), ⟨by decide, by decide, by decide +kernel⟩, _, rfl, rfl⟩
set_option maxRecDepth 30000 in
theorem ov_X9_dropsNots : okV yX9_dropsNots cX9_dropsNots 1 none 0 9 := ⟨mc7 21 rfl, mg 10 (by decide +kernel) rfl, mg 1460 (by decide +kernel) rfl, mp 83 113 (by decide +kernel), ⟨by decide, by decide, by decide +kernel⟩, _, rfl, rfl⟩
set_option maxRecDepth 30000 in
theorem ov_X9_dropsToMark : okV yX9_dropsToMark cX9_dropsToMark 1 none 0 9 := ⟨mc7 9 rfl, mg 10 (by decide +kernel) rfl, mg 1448 (by decide +kernel) rfl, mp 80 113 (by decide +kernel), ⟨by decide, by decide, by decide +kernel⟩, _, rfl, rfl⟩
set_option maxRecDepth 30000 in
theorem ov_X9_dueCup : okV yX9_dueCup cX9_dueCup 7 (some (.int)) 2 9 := ⟨mc7 128 rfl, mg 10 (by decide +kernel) rfl, mg 1567 (by decide +kernel) rfl, mp 96 113 (by decide +kernel), ⟨by decide, by decide, by decide +kernel⟩, _, rfl, rfl⟩
set_option maxRecDepth 30000 in
theorem ov_X9_end : okV yX9_end cX9_end 2 (some (.boolean)) 1 9 := ⟨mc6 126 rfl, mg 10 (by decide +kernel) rfl, mg 1324 (by decide +kernel) rfl, mg 1325 (by decide +kernel) rfl, ⟨by decide, by decide, by decide +kernel⟩, _, rfl, rfl⟩
set_option maxRecDepth 30000 in
theorem ov_X9_fact : okV yX9_fact cX9_fact 2 none 0 9 := ⟨mc6 213 rfl, mg 10 (by decide +kernel) rfl, mg 1412 (by decide +kernel) rfl, mp 71 113 (by decide +kernel), ⟨by decide, by decide, by decide +kernel⟩, _, rfl, rfl⟩
set_option maxRecDepth 30000 in
theorem ov_X9_fail : okV yX9_fail cX9_fail 3 none 2 9 := ⟨mc6 153 rfl, mg 10 (by decide +kernel) rfl, mg 1352 (by decide +kernel) rfl, mp 58 113 (by decide +kernel), ⟨by decide, by decide, by decide +kernel⟩, _, rfl, rfl⟩
set_option maxRecDepth 30000 in
theorem ov_X9_fault : okV yX9_fault cX9_fault 2 (some (.int)) 1 9 := ⟨mc7 50 rfl, mg 10 (by decide +kernel) rfl, mg 1488 (by decide +kernel) rfl, mg 1489 (by decide +kernel) rfl, ⟨by decide, by decide, by decide +kernel⟩, _, rfl, rfl⟩
set_option maxRecDepth 30000 in
theorem ov_X9_feed : okV yX9_feed cX9_feed 8 (some (.int)) 5 9 := ⟨mc6 122 rfl, mg 10 (by decide +kernel) rfl, mg 1320 (by decide +kernel) rfl, mg 1321 (by decide +kernel) rfl, ⟨by decide, by decide, by decide +kernel⟩, _, rfl, rfl⟩
set_option maxRecDepth 30000 in
theorem ov_X9_fills : okV yX9_fills cX9_fills 4 none 1 9 := ⟨mc7 105 rfl, mg 10 (by decide +kernel) rfl, mg 1544 (by decide +kernel) rfl, mp 92 113 (by decide +kernel), ⟨by decide, by decide, by decide +kernel⟩, _, rfl, rfl⟩
set_option maxRecDepth 30000 in
theorem os_X9_floor : okS yX9_floor cX9_floor 6 (some (.long)) 2 := ⟨mc8 24 rfl, mg 10 (by decide +kernel) rfl, mg 1703 (by decide +kernel) rfl, by decide, by decide, by decide +kernel⟩
set_option maxRecDepth 30000 in
theorem os_X9_floor1 : okS yX9_floor1 cX9_floor1 6 (some (.long)) 2 := ⟨mc7 230 rfl, mg 10 (by decide +kernel) rfl, mg 1669 (by decide +kernel) rfl, by decide, by decide, by decide +kernel⟩
set_option maxRecDepth 30000 in
theorem ov_X9_fresh : okV yX9_fresh cX9_fresh 5 (some (.long)) 0 9 := ⟨mc6 157 rfl, mg 10 (by decide +kernel) rfl, mg 1356 (by decide +kernel) rfl, mp 59 113 (by decide +kernel), ⟨by decide, by decide, by decide +kernel⟩, _, rfl, rfl⟩
set_option maxRecDepth 30000 in
theorem ov_X9_gathers : okV yX9_gathers cX9_gathers 4 none 0 9 := ⟨mc7 211 rfl, mg 10 (by decide +kernel) rfl, mg 1650 (by decide +kernel) rfl, mp 105 113 (by decide +kernel), ⟨by decide, by decide, by decide +kernel⟩, _, rfl, rfl⟩
set_option maxRecDepth 30000 in
theorem ov_X9_goesOn : okV yX9_goesOn cX9_goesOn 2 (some (.boolean)) 0 9 := ⟨mc6 237 rfl, mg 10 (by decide +kernel) rfl, mg 1436 (by decide +kernel) rfl, mp 77 113 (by decide +kernel), ⟨by decide, by decide, by decide +kernel⟩, _, rfl, rfl⟩
set_option maxRecDepth 30000 in
theorem ov_X9_goesOnTest : okV yX9_goesOnTest cX9_goesOnTest 1 (some (.boolean)) 0 9 := ⟨mc7 25 rfl, mg 10 (by decide +kernel) rfl, mg 1464 (by decide +kernel) rfl, mp 84 113 (by decide +kernel), ⟨by decide, by decide, by decide +kernel⟩, _, rfl, rfl⟩
set_option maxRecDepth 30000 in
theorem ov_X9_guess : okV yX9_guess cX9_guess 4 (some (.long)) 3 9 := ⟨mc7 154 rfl, mg 10 (by decide +kernel) rfl, mg 1592 (by decide +kernel) rfl, mg 1593 (by decide +kernel) rfl, ⟨by decide, by decide, by decide +kernel⟩, _, rfl, rfl⟩
set_option maxRecDepth 30000 in
theorem os_X9_guessed : okS yX9_guessed cX9_guessed 6 (some (.long)) 3 := ⟨mc7 142 rfl, mg 10 (by decide +kernel) rfl, mg 1581 (by decide +kernel) rfl, by decide, by decide, by decide +kernel⟩
set_option maxRecDepth 30000 in
theorem ov_X9_hasSquare : okV yX9_hasSquare cX9_hasSquare 2 (some (.boolean)) 0 9 := ⟨mc7 29 rfl, mg 10 (by decide +kernel) rfl, mg 1468 (by decide +kernel) rfl, mp 85 113 (by decide +kernel), ⟨by decide, by decide, by decide +kernel⟩, _, rfl, rfl⟩
set_option maxRecDepth 30000 in
theorem ov_X9_inside : okV yX9_inside cX9_inside 4 (some (.int)) 2 9 := ⟨mc7 101 rfl, mg 10 (by decide +kernel) rfl, mg 1539 (by decide +kernel) rfl, mg 1540 (by decide +kernel) rfl, ⟨by decide, by decide, by decide +kernel⟩, _, rfl, rfl⟩
set_option maxRecDepth 30000 in
theorem os_X9_isBelow : okS yX9_isBelow cX9_isBelow 7 (some (.boolean)) 5 := ⟨mc7 139 rfl, mg 10 (by decide +kernel) rfl, mg 1578 (by decide +kernel) rfl, by decide, by decide, by decide +kernel⟩
set_option maxRecDepth 30000 in
theorem os_X9_isDigit : okS yX9_isDigit cX9_isDigit 1 (some (.boolean)) 1 := ⟨mc6 194 rfl, mg 10 (by decide +kernel) rfl, mg 1393 (by decide +kernel) rfl, by decide, by decide, by decide +kernel⟩
set_option maxRecDepth 30000 in
theorem ov_X9_isHere : okV yX9_isHere cX9_isHere 4 (some (.boolean)) 1 9 := ⟨mc6 146 rfl, mg 10 (by decide +kernel) rfl, mg 1345 (by decide +kernel) rfl, mp 57 113 (by decide +kernel), ⟨by decide, by decide, by decide +kernel⟩, _, rfl, rfl⟩
set_option maxRecDepth 30000 in
theorem os_X9_isIn : okS yX9_isIn cX9_isIn 6 (some (.boolean)) 3 := ⟨mc6 197 rfl, mg 10 (by decide +kernel) rfl, mg 1396 (by decide +kernel) rfl, by decide, by decide, by decide +kernel⟩
set_option maxRecDepth 30000 in
theorem ov_X9_isKnown : okV yX9_isKnown cX9_isKnown 2 (some (.boolean)) 1 9 := ⟨mc7 112 rfl, mg 10 (by decide +kernel) rfl, mg 1551 (by decide +kernel) rfl, mp 93 113 (by decide +kernel), ⟨by decide, by decide, by decide +kernel⟩, _, rfl, rfl⟩
set_option maxRecDepth 30000 in
theorem os_X9_isLetter : okS yX9_isLetter cX9_isLetter 1 (some (.boolean)) 1 := ⟨mc6 149 rfl, mg 10 (by decide +kernel) rfl, mg 1348 (by decide +kernel) rfl, by decide, by decide, by decide +kernel⟩
set_option maxRecDepth 30000 in
theorem ov_X9_isMark : okV yX9_isMark cX9_isMark 2 (some (.boolean)) 1 9 := ⟨mc7 5 rfl, mg 10 (by decide +kernel) rfl, mg 1444 (by decide +kernel) rfl, mp 79 113 (by decide +kernel), ⟨by decide, by decide, by decide +kernel⟩, _, rfl, rfl⟩
set_option maxRecDepth 30000 in
theorem ov_X9_isOn : okV yX9_isOn cX9_isOn 2 (some (.boolean)) 1 9 := ⟨mc7 17 rfl, mg 10 (by decide +kernel) rfl, mg 1456 (by decide +kernel) rfl, mp 82 113 (by decide +kernel), ⟨by decide, by decide, by decide +kernel⟩, _, rfl, rfl⟩
set_option maxRecDepth 30000 in
theorem ov_X9_isOwnHere : okV yX9_isOwnHere cX9_isOwnHere 2 (some (.boolean)) 0 9 := ⟨mc6 165 rfl, mg 10 (by decide +kernel) rfl, mg 1364 (by decide +kernel) rfl, mp 61 113 (by decide +kernel), ⟨by decide, by decide, by decide +kernel⟩, _, rfl, rfl⟩
set_option maxRecDepth 30000 in
theorem os_X9_isTaster : okS yX9_isTaster cX9_isTaster 1 (some (.boolean)) 1 := ⟨mc7 61 rfl, mg 10 (by decide +kernel) rfl, mg 1500 (by decide +kernel) rfl, by decide, by decide, by decide +kernel⟩
set_option maxRecDepth 30000 in
theorem ov_X9_isTrial : okV yX9_isTrial cX9_isTrial 2 (some (.boolean)) 1 9 := ⟨mc7 58 rfl, mg 10 (by decide +kernel) rfl, mg 1497 (by decide +kernel) rfl, mp 89 113 (by decide +kernel), ⟨by decide, by decide, by decide +kernel⟩, _, rfl, rfl⟩
set_option maxRecDepth 30000 in
theorem ov_X9_joins : okV yX9_joins cX9_joins 6 none 1 9 := ⟨mc8 16 rfl, mg 10 (by decide +kernel) rfl, mg 1695 (by decide +kernel) rfl, mp 112 113 (by decide +kernel), ⟨by decide, by decide, by decide +kernel⟩, _, rfl, rfl⟩
set_option maxRecDepth 30000 in
theorem ov_X9_lays : okV yX9_lays cX9_lays 7 (some (.boolean)) 3 9 := ⟨mc8 33 rfl, mg 10 (by decide +kernel) rfl, mg 1712 (by decide +kernel) rfl, mp 113 113 (by decide +kernel), ⟨by decide, by decide, by decide +kernel⟩, _, rfl, rfl⟩
set_option maxRecDepth 30000 in
theorem ov_X9_least : okV yX9_least cX9_least 3 (some (.int)) 1 9 := ⟨mc7 190 rfl, mg 10 (by decide +kernel) rfl, mg 1629 (by decide +kernel) rfl, mp 102 113 (by decide +kernel), ⟨by decide, by decide, by decide +kernel⟩, _, rfl, rfl⟩
set_option maxRecDepth 30000 in
theorem ov_X9_look : okV yX9_look cX9_look 1 (some (.int)) 0 9 := ⟨mc6 134 rfl, mg 10 (by decide +kernel) rfl, mg 1333 (by decide +kernel) rfl, mp 54 113 (by decide +kernel), ⟨by decide, by decide, by decide +kernel⟩, _, rfl, rfl⟩
set_option maxRecDepth 30000 in
theorem ov_X9_lookTold : okV yX9_lookTold cX9_lookTold 4 none 0 9 := ⟨mc6 187 rfl, mg 10 (by decide +kernel) rfl, mg 1386 (by decide +kernel) rfl, mp 66 113 (by decide +kernel), ⟨by decide, by decide, by decide +kernel⟩, _, rfl, rfl⟩
set_option maxRecDepth 30000 in
theorem ov_X9_mark : okV yX9_mark cX9_mark 2 (some (.int)) 0 9 := ⟨mc7 1 rfl, mg 10 (by decide +kernel) rfl, mg 1440 (by decide +kernel) rfl, mp 78 113 (by decide +kernel), ⟨by decide, by decide, by decide +kernel⟩, _, rfl, rfl⟩
set_option maxRecDepth 30000 in
theorem ov_X9_mean : okV yX9_mean cX9_mean 2 (some (.int)) 1 9 := ⟨mc7 234 rfl, mg 10 (by decide +kernel) rfl, mg 1672 (by decide +kernel) rfl, mg 1673 (by decide +kernel) rfl, ⟨by decide, by decide, by decide +kernel⟩, _, rfl, rfl⟩
set_option maxRecDepth 30000 in
theorem ov_X9_meanOf : okV yX9_meanOf cX9_meanOf 9 (some (.int)) 1 9 := ⟨mc7 238 rfl, mg 10 (by decide +kernel) rfl, mg 1677 (by decide +kernel) rfl, mp 110 113 (by decide +kernel), ⟨by decide, by decide, by decide +kernel⟩, _, rfl, rfl⟩
set_option maxRecDepth 30000 in
theorem ov_X9_millionths : okV yX9_millionths cX9_millionths 9 (some (.int)) 1 9 := ⟨mc7 198 rfl, mg 10 (by decide +kernel) rfl, mg 1637 (by decide +kernel) rfl, mp 104 113 (by decide +kernel), ⟨by decide, by decide, by decide +kernel⟩, _, rfl, rfl⟩
set_option maxRecDepth 30000 in
theorem ov_X9_most : okV yX9_most cX9_most 3 (some (.int)) 1 9 := ⟨mc7 194 rfl, mg 10 (by decide +kernel) rfl, mg 1633 (by decide +kernel) rfl, mp 103 113 (by decide +kernel), ⟨by decide, by decide, by decide +kernel⟩, _, rfl, rfl⟩
set_option maxRecDepth 30000 in
theorem ov_X9_name : okV yX9_name cX9_name 3 (some (.long)) 0 9 := ⟨mc6 161 rfl, mg 10 (by decide +kernel) rfl, mg 1360 (by decide +kernel) rfl, mp 60 113 (by decide +kernel), ⟨by decide, by decide, by decide +kernel⟩, _, rfl, rfl⟩
set_option maxRecDepth 30000 in
theorem ov_X9_needed : okV yX9_needed cX9_needed 7 (some (.int)) 4 9 := ⟨mc7 171 rfl, mg 10 (by decide +kernel) rfl, mg 1609 (by decide +kernel) rfl, mg 1610 (by decide +kernel) rfl, ⟨by decide, by decide, by decide +kernel⟩, _, rfl, rfl⟩
set_option maxRecDepth 30000 in
theorem ov_X9_now : okV yX9_now cX9_now 1 (some (.int)) 0 9 := ⟨mc7 116 rfl, mg 10 (by decide +kernel) rfl, mg 1555 (by decide +kernel) rfl, mp 94 113 (by decide +kernel), ⟨by decide, by decide, by decide +kernel⟩, _, rfl, rfl⟩
set_option maxRecDepth 30000 in
theorem ov_X9_number : okV yX9_number cX9_number 5 (some (.int)) 2 9 := ⟨mc6 191 rfl, mg 10 (by decide +kernel) rfl, mg 1390 (by decide +kernel) rfl, mp 67 113 (by decide +kernel), ⟨by decide, by decide, by decide +kernel⟩, _, rfl, rfl⟩
set_option maxRecDepth 30000 in
theorem ov_X9_ofK : okV yX9_ofK cX9_ofK 2 (some (.int)) 1 9 := ⟨mc7 136 rfl, mg 10 (by decide +kernel) rfl, mg 1575 (by decide +kernel) rfl, mp 98 113 (by decide +kernel), ⟨by decide, by decide, by decide +kernel⟩, _, rfl, rfl⟩
set_option maxRecDepth 30000 in
theorem ov_X9_ofN : okV yX9_ofN cX9_ofN 1 (some (.int)) 0 9 := ⟨mc7 132 rfl, mg 10 (by decide +kernel) rfl, mg 1571 (by decide +kernel) rfl, mp 97 113 (by decide +kernel), ⟨by decide, by decide, by decide +kernel⟩, _, rfl, rfl⟩
set_option maxRecDepth 30000 in
theorem ov_X9_onePart : okV yX9_onePart cX9_onePart 5 none 0 9 := ⟨mc6 225 rfl, mg 10 (by decide +kernel) rfl, mg 1424 (by decide +kernel) rfl, mp 74 113 (by decide +kernel), ⟨by decide, by decide, by decide +kernel⟩, _, rfl, rfl⟩
set_option maxRecDepth 30000 in
theorem ov_X9_open : okV yX9_open cX9_open 1 (some (.boolean)) 0 9 := ⟨mc7 97 rfl, mg 10 (by decide +kernel) rfl, mg 1535 (by decide +kernel) rfl, mg 1536 (by decide +kernel) rfl, ⟨by decide, by decide, by decide +kernel⟩, _, rfl, rfl⟩
set_option maxRecDepth 30000 in
theorem ov_X9_opens : okV yX9_opens cX9_opens 3 none 2 9 := ⟨mc6 209 rfl, mg 10 (by decide +kernel) rfl, mg 1408 (by decide +kernel) rfl, mp 70 113 (by decide +kernel), ⟨by decide, by decide, by decide +kernel⟩, _, rfl, rfl⟩
set_option maxRecDepth 30000 in
theorem os_X9_orderOf : okS yX9_orderOf cX9_orderOf 6 (some (.int)) 3 := ⟨mc7 108 rfl, mg 10 (by decide +kernel) rfl, mg 1547 (by decide +kernel) rfl, by decide, by decide, by decide +kernel⟩
set_option maxRecDepth 30000 in
theorem ov_X9_orders : okV yX9_orders cX9_orders 10 (some (.int)) 2 9 := ⟨mc8 28 rfl, mg 10 (by decide +kernel) rfl, mg 1706 (by decide +kernel) rfl, mg 1707 (by decide +kernel) rfl, ⟨by decide, by decide, by decide +kernel⟩, _, rfl, rfl⟩
set_option maxRecDepth 30000 in
theorem os_X9_over : okS yX9_over cX9_over 5 (some (.long)) 2 := ⟨mc7 145 rfl, mg 10 (by decide +kernel) rfl, mg 1584 (by decide +kernel) rfl, by decide, by decide, by decide +kernel⟩
set_option maxRecDepth 30000 in
theorem ov_X9_piles : okV yX9_piles cX9_piles 3 none 1 9 := ⟨mc8 12 rfl, mg 10 (by decide +kernel) rfl, mg 1691 (by decide +kernel) rfl, mp 111 113 (by decide +kernel), ⟨by decide, by decide, by decide +kernel⟩, _, rfl, rfl⟩
set_option maxRecDepth 30000 in
theorem ov_X9_places : okV yX9_places cX9_places 2 (some (.int)) 1 9 := ⟨mc7 41 rfl, mg 10 (by decide +kernel) rfl, mg 1480 (by decide +kernel) rfl, mp 88 113 (by decide +kernel), ⟨by decide, by decide, by decide +kernel⟩, _, rfl, rfl⟩
set_option maxRecDepth 30000 in
theorem ov_X9_plan : okV yX9_plan cX9_plan 2 (some (.int)) 1 9 := ⟨mc6 130 rfl, mg 10 (by decide +kernel) rfl, mg 1328 (by decide +kernel) rfl, mg 1329 (by decide +kernel) rfl, ⟨by decide, by decide, by decide +kernel⟩, _, rfl, rfl⟩
set_option maxRecDepth 30000 in
theorem os_X9_power : okS yX9_power cX9_power 6 (some (.long)) 2 := ⟨mc7 149 rfl, mg 10 (by decide +kernel) rfl, mg 1588 (by decide +kernel) rfl, by decide, by decide, by decide +kernel⟩
set_option maxRecDepth 30000 in
theorem ov_X9_product : okV yX9_product cX9_product 4 (some (.int)) 0 9 := ⟨mc6 179 rfl, mg 10 (by decide +kernel) rfl, mg 1378 (by decide +kernel) rfl, mp 64 113 (by decide +kernel), ⟨by decide, by decide, by decide +kernel⟩, _, rfl, rfl⟩
set_option maxRecDepth 30000 in
theorem ov_X9_productOf : okV yX9_productOf cX9_productOf 4 (some (.int)) 1 9 := ⟨mc6 171 rfl, mg 10 (by decide +kernel) rfl, mg 1370 (by decide +kernel) rfl, mp 62 113 (by decide +kernel), ⟨by decide, by decide, by decide +kernel⟩, _, rfl, rfl⟩
set_option maxRecDepth 30000 in
theorem ov_X9_puts : okV yX9_puts cX9_puts 2 none 1 9 := ⟨mc6 217 rfl, mg 10 (by decide +kernel) rfl, mg 1416 (by decide +kernel) rfl, mp 72 113 (by decide +kernel), ⟨by decide, by decide, by decide +kernel⟩, _, rfl, rfl⟩
set_option maxRecDepth 30000 in
theorem ov_X9_referenceMean : okV yX9_referenceMean cX9_referenceMean 6 (some (.int)) 1 9 := ⟨mc7 219 rfl, mg 10 (by decide +kernel) rfl, mg 1658 (by decide +kernel) rfl, mp 107 113 (by decide +kernel), ⟨by decide, by decide, by decide +kernel⟩, _, rfl, rfl⟩
set_option maxRecDepth 30000 in
theorem ov_X9_rowSum : okV yX9_rowSum cX9_rowSum 6 (some (.long)) 2 9 := ⟨mc7 175 rfl, mg 10 (by decide +kernel) rfl, mg 1614 (by decide +kernel) rfl, mp 100 113 (by decide +kernel), ⟨by decide, by decide, by decide +kernel⟩, _, rfl, rfl⟩
set_option maxRecDepth 30000 in
theorem ov_X9_scaled : okV yX9_scaled cX9_scaled 4 (some (.int)) 1 9 := ⟨mc7 227 rfl, mg 10 (by decide +kernel) rfl, mg 1666 (by decide +kernel) rfl, mp 109 113 (by decide +kernel), ⟨by decide, by decide, by decide +kernel⟩, _, rfl, rfl⟩
set_option maxRecDepth 30000 in
theorem ov_X9_score : okV yX9_score cX9_score 5 (some (.int)) 4 9 := ⟨mc7 78 rfl, mg 10 (by decide +kernel) rfl, mg 1516 (by decide +kernel) rfl, mg 1517 (by decide +kernel) rfl, ⟨by decide, by decide, by decide +kernel⟩, _, rfl, rfl⟩
set_option maxRecDepth 30000 in
theorem ov_X9_scoreAct : okV yX9_scoreAct cX9_scoreAct 5 (some (.int)) 3 9 := ⟨mc7 223 rfl, mg 10 (by decide +kernel) rfl, mg 1662 (by decide +kernel) rfl, mp 108 113 (by decide +kernel), ⟨by decide, by decide, by decide +kernel⟩, _, rfl, rfl⟩
set_option maxRecDepth 30000 in
theorem ov_X9_scored : okV yX9_scored cX9_scored 5 (some (.int)) 3 9 := ⟨mc7 207 rfl, mg 10 (by decide +kernel) rfl, mg 1645 (by decide +kernel) rfl, mg 1646 (by decide +kernel) rfl, ⟨by decide, by decide, by decide +kernel⟩, _, rfl, rfl⟩
set_option maxRecDepth 30000 in
theorem ov_X9_served : okV yX9_served cX9_served 3 (some (.int)) 2 9 := ⟨mc8 44 rfl, mg 10 (by decide +kernel) rfl, mg 1722 (by decide +kernel) rfl, mg 1723 (by decide +kernel) rfl, ⟨by decide, by decide, by decide +kernel⟩, _, rfl, rfl⟩
set_option maxRecDepth 30000 in
theorem ov_X9_serves : okV yX9_serves cX9_serves 5 (some (.int)) 1 9 := ⟨mc8 48 rfl, mg 10 (by decide +kernel) rfl, mg 1726 (by decide +kernel) rfl, mg 1727 (by decide +kernel) rfl, ⟨by decide, by decide, by decide +kernel⟩, _, rfl, rfl⟩
set_option maxRecDepth 30000 in
theorem os_X9_square : okS yX9_square cX9_square 1 (some (.int)) 1 := ⟨mc8 40 rfl, mg 10 (by decide +kernel) rfl, mg 1719 (by decide +kernel) rfl, by decide, by decide, by decide +kernel⟩
set_option maxRecDepth 30000 in
theorem ov_X9_stands : okV yX9_stands cX9_stands 2 none 0 9 := ⟨mc7 33 rfl, mg 10 (by decide +kernel) rfl, mg 1472 (by decide +kernel) rfl, mp 86 113 (by decide +kernel), ⟨by decide, by decide, by decide +kernel⟩, _, rfl, rfl⟩
set_option maxRecDepth 30000 in
theorem ov_X9_statement : okV yX9_statement cX9_statement 3 none 0 9 := ⟨mc6 138 rfl, mg 10 (by decide +kernel) rfl, mg 1337 (by decide +kernel) rfl, mp 55 113 (by decide +kernel), ⟨by decide, by decide, by decide +kernel⟩, _, rfl, rfl⟩
set_option maxRecDepth 30000 in
theorem ov_X9_sum : okV yX9_sum cX9_sum 3 none 0 9 := ⟨mc6 221 rfl, mg 10 (by decide +kernel) rfl, mg 1420 (by decide +kernel) rfl, mp 73 113 (by decide +kernel), ⟨by decide, by decide, by decide +kernel⟩, _, rfl, rfl⟩
set_option maxRecDepth 30000 in
theorem ov_X9_swap : okV yX9_swap cX9_swap 6 (some (.int)) 3 9 := ⟨mc7 84 rfl, mg 10 (by decide +kernel) rfl, mg 1522 (by decide +kernel) rfl, mg 1523 (by decide +kernel) rfl, ⟨by decide, by decide, by decide +kernel⟩, _, rfl, rfl⟩
set_option maxRecDepth 30000 in
theorem ov_X9_table : okV yX9_table cX9_table 5 (some (.long)) 4 9 := ⟨mc7 159 rfl, mg 10 (by decide +kernel) rfl, mg 1597 (by decide +kernel) rfl, mg 1598 (by decide +kernel) rfl, ⟨by decide, by decide, by decide +kernel⟩, _, rfl, rfl⟩
set_option maxRecDepth 30000 in
theorem ov_X9_tables : okV yX9_tables cX9_tables 12 none 3 9 := ⟨mc7 164 rfl, mg 10 (by decide +kernel) rfl, mg 1603 (by decide +kernel) rfl, mp 99 113 (by decide +kernel), ⟨by decide, by decide, by decide +kernel⟩, _, rfl, rfl⟩
set_option maxRecDepth 30000 in
theorem ov_X9_takes : okV yX9_takes cX9_takes 2 (some (.boolean)) 1 9 := ⟨mc6 142 rfl, mg 10 (by decide +kernel) rfl, mg 1341 (by decide +kernel) rfl, mp 56 113 (by decide +kernel), ⟨by decide, by decide, by decide +kernel⟩, _, rfl, rfl⟩
set_option maxRecDepth 30000 in
theorem ov_X9_takesSign : okV yX9_takesSign cX9_takesSign 2 (some (.boolean)) 1 9 := ⟨mc6 233 rfl, mg 10 (by decide +kernel) rfl, mg 1432 (by decide +kernel) rfl, mp 76 113 (by decide +kernel), ⟨by decide, by decide, by decide +kernel⟩, _, rfl, rfl⟩
set_option maxRecDepth 30000 in
theorem ov_X9_test : okV yX9_test cX9_test 3 none 0 9 := ⟨mc6 205 rfl, mg 10 (by decide +kernel) rfl, mg 1404 (by decide +kernel) rfl, mp 69 113 (by decide +kernel), ⟨by decide, by decide, by decide +kernel⟩, _, rfl, rfl⟩
set_option maxRecDepth 30000 in
theorem os_X9_thousandths : okS yX9_thousandths cX9_thousandths 1 (some (.long)) 1 := ⟨mc7 178 rfl, mg 10 (by decide +kernel) rfl, mg 1617 (by decide +kernel) rfl, by decide, by decide, by decide +kernel⟩
set_option maxRecDepth 30000 in
theorem ov_X9_told : okV yX9_told cX9_told 3 (some (.int)) 2 9 := ⟨mc7 186 rfl, mg 10 (by decide +kernel) rfl, mg 1625 (by decide +kernel) rfl, mp 101 113 (by decide +kernel), ⟨by decide, by decide, by decide +kernel⟩, _, rfl, rfl⟩
set_option maxRecDepth 30000 in
theorem ov_X9_trial : okV yX9_trial cX9_trial 3 (some (.int)) 2 9 := ⟨mc7 182 rfl, mg 10 (by decide +kernel) rfl, mg 1620 (by decide +kernel) rfl, mg 1621 (by decide +kernel) rfl, ⟨by decide, by decide, by decide +kernel⟩, _, rfl, rfl⟩
set_option maxRecDepth 30000 in
theorem ov_X9_trialTold : okV yX9_trialTold cX9_trialTold 2 none 1 9 := ⟨mc6 175 rfl, mg 10 (by decide +kernel) rfl, mg 1374 (by decide +kernel) rfl, mp 63 113 (by decide +kernel), ⟨by decide, by decide, by decide +kernel⟩, _, rfl, rfl⟩
set_option maxRecDepth 30000 in
theorem ov_X9_uneven : okV yX9_uneven cX9_uneven 6 (some (.int)) 2 9 := ⟨mc8 37 rfl, mg 10 (by decide +kernel) rfl, mg 1716 (by decide +kernel) rfl, mp 114 113 (by decide +kernel), ⟨by decide, by decide, by decide +kernel⟩, _, rfl, rfl⟩
set_option maxRecDepth 30000 in
theorem os_J9_floorDiv_7cf53 : okS yJ9_floorDiv_7cf53 cJ9_floorDiv_7cf53 3 (some (.int)) 2 := ⟨mc4 135 rfl, mg 16 (by decide +kernel) rfl, mg 854 (by decide +kernel) rfl, by decide, by decide, by decide +kernel⟩
set_option maxRecDepth 30000 in
theorem os_J9_max_7cf53 : okS yJ9_max_7cf53 cJ9_max_7cf53 2 (some (.int)) 2 := ⟨mc4 46 rfl, mg 16 (by decide +kernel) rfl, mg 765 (by decide +kernel) rfl, by decide, by decide, by decide +kernel⟩
set_option maxRecDepth 30000 in
theorem os_J9_max_f86c9 : okS yJ9_max_f86c9 cJ9_max_f86c9 4 (some (.long)) 2 := ⟨mc4 59 rfl, mg 16 (by decide +kernel) rfl, mg 778 (by decide +kernel) rfl, by decide, by decide, by decide +kernel⟩
set_option maxRecDepth 30000 in
theorem os_J9_min_7cf53 : okS yJ9_min_7cf53 cJ9_min_7cf53 2 (some (.int)) 2 := ⟨mc4 115 rfl, mg 16 (by decide +kernel) rfl, mg 834 (by decide +kernel) rfl, by decide, by decide, by decide +kernel⟩
set_option maxRecDepth 30000 in
theorem os_J9_min_f86c9 : okS yJ9_min_f86c9 cJ9_min_f86c9 4 (some (.long)) 2 := ⟨mc4 187 rfl, mg 16 (by decide +kernel) rfl, mg 906 (by decide +kernel) rfl, by decide, by decide, by decide +kernel⟩
set_option maxRecDepth 30000 in
theorem os_J0_checkIndex_df160 : okS yJ0_checkIndex_df160 cJ0_checkIndex_df160 2 none 2 := ⟨mc2 165 rfl, mg 11 (by decide +kernel) rfl, mg 404 (by decide +kernel) rfl, by decide, by decide, by decide +kernel⟩
set_option maxRecDepth 30000 in
theorem os_J1_charAt_3b067 : okS yJ1_charAt_3b067 cJ1_charAt_3b067 2 (some (.char)) 2 := ⟨mc2 162 rfl, mg 12 (by decide +kernel) rfl, mg 401 (by decide +kernel) rfl, by decide, by decide, by decide +kernel⟩
set_option maxRecDepth 30000 in
theorem os_J2_charAt_3b067 : okS yJ2_charAt_3b067 cJ2_charAt_3b067 2 (some (.char)) 2 := ⟨mc2 173 rfl, mg 14 (by decide +kernel) rfl, mg 412 (by decide +kernel) rfl, by decide, by decide, by decide +kernel⟩
set_option maxRecDepth 30000 in
theorem os_J2_checkIndex_2214a : okS yJ2_checkIndex_2214a cJ2_checkIndex_2214a 2 none 2 := ⟨mc2 176 rfl, mg 14 (by decide +kernel) rfl, mg 415 (by decide +kernel) rfl, by decide, by decide, by decide +kernel⟩
set_option maxRecDepth 30000 in
theorem os_J2_getChar_3b067 : okS yJ2_getChar_3b067 cJ2_getChar_3b067 2 (some (.char)) 2 := ⟨mc2 183 rfl, mg 14 (by decide +kernel) rfl, mg 422 (by decide +kernel) rfl, by decide, by decide, by decide +kernel⟩
set_option maxRecDepth 30000 in
theorem os_J2_length_9d52b : okS yJ2_length_9d52b cJ2_length_9d52b 1 (some (.int)) 1 := ⟨mc2 179 rfl, mg 14 (by decide +kernel) rfl, mg 418 (by decide +kernel) rfl, by decide, by decide, by decide +kernel⟩
set_option maxRecDepth 30000 in
theorem os_J7_fill_53178 : okS yJ7_fill_53178 cJ7_fill_53178 4 none 2 := ⟨mc3 93 rfl, mg 15 (by decide +kernel) rfl, mg 572 (by decide +kernel) rfl, by decide, by decide, by decide +kernel⟩
set_option maxRecDepth 30000 in
theorem os_J7_fill_d0a16 : okS yJ7_fill_d0a16 cJ7_fill_d0a16 5 none 2 := ⟨mc4 42 rfl, mg 15 (by decide +kernel) rfl, mg 761 (by decide +kernel) rfl, by decide, by decide, by decide +kernel⟩
set_option maxRecDepth 30000 in
theorem os_J3_checkIndex_8e157 : okS yJ3_checkIndex_8e157 cJ3_checkIndex_8e157 3 (some (.int)) 3 := ⟨mc2 170 rfl, mg 13 (by decide +kernel) rfl, mg 409 (by decide +kernel) rfl, by decide, by decide, by decide +kernel⟩
