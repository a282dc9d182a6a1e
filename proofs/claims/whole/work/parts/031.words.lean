theorem mX0_init_ok : MOk mX0_init 0 := ⟨inTT 302 (by decide +kernel) rfl, inTT 88 (by decide +kernel) rfl, by decide +kernel, by decide, plainFor_of_name (by decide +kernel), rfl⟩
theorem mX0_init_i : MI mX0_init := ⟨inTT 301 (by decide +kernel) rfl, rfl, rfl, by decide⟩
theorem mX0_begin_ok : MOk mX0_begin 1 := ⟨inTT 965 (by decide +kernel) rfl, inTT 88 (by decide +kernel) rfl, by decide +kernel, by decide, plainFor_of_name (by decide +kernel), rfl⟩
theorem mX0_begin_v : MV mX0_begin := ⟨inTT 963 (by decide +kernel) rfl, inTT 964 (by decide +kernel) rfl, by decide⟩
theorem mX0_deedsOf_ok : MOk mX0_deedsOf 1 := ⟨inTT 970 (by decide +kernel) rfl, inTT 88 (by decide +kernel) rfl, by decide +kernel, by decide, plainFor_of_name (by decide +kernel), rfl⟩
theorem mX0_deedsOf_v : MV mX0_deedsOf := ⟨inTT 968 (by decide +kernel) rfl, inTT 969 (by decide +kernel) rfl, by decide⟩
theorem mX0_drawTown_ok : MOk mX0_drawTown 2 := ⟨inTT 988 (by decide +kernel) rfl, inTT 88 (by decide +kernel) rfl, by decide +kernel, by decide, plainFor_of_name (by decide +kernel), rfl⟩
theorem mX0_drawTown_v : MV mX0_drawTown := ⟨inTT 986 (by decide +kernel) rfl, inTT 987 (by decide +kernel) rfl, by decide⟩
theorem mX0_setWeek_ok : MOk mX0_setWeek 2 := ⟨inTT 983 (by decide +kernel) rfl, inTT 88 (by decide +kernel) rfl, by decide +kernel, by decide, plainFor_of_name (by decide +kernel), rfl⟩
theorem mX0_setWeek_v : MV mX0_setWeek := ⟨inTT 981 (by decide +kernel) rfl, inTT 982 (by decide +kernel) rfl, by decide⟩
theorem mX0_thousandthsOfLast_ok : MOk mX0_thousandthsOfLast 3 := ⟨inTT 997 (by decide +kernel) rfl, inTT 88 (by decide +kernel) rfl, by decide +kernel, by decide, plainFor_of_name (by decide +kernel), rfl⟩
theorem mX0_thousandthsOfLast_v : MV mX0_thousandthsOfLast := ⟨inTT 995 (by decide +kernel) rfl, inTT 996 (by decide +kernel) rfl, by decide⟩
theorem mX1_init_ok : MOk mX1_init 0 := ⟨inTT 261 (by decide +kernel) rfl, inTT 86 (by decide +kernel) rfl, by decide +kernel, by decide, plainFor_of_name (by decide +kernel), rfl⟩
theorem mX1_init_i : MI mX1_init := ⟨inTT 260 (by decide +kernel) rfl, rfl, rfl, by decide⟩
theorem mX1_answer_ok : MOk mX1_answer 3 := ⟨inTT 780 (by decide +kernel) rfl, inTT 86 (by decide +kernel) rfl, by decide +kernel, by decide, plainFor_of_name (by decide +kernel), rfl⟩
theorem mX1_answer_v : MV mX1_answer := ⟨inTT 778 (by decide +kernel) rfl, inTT 779 (by decide +kernel) rfl, by decide⟩
theorem mX1_comingFrom_ok : MOk mX1_comingFrom 2 := ⟨inTT 774 (by decide +kernel) rfl, inTT 86 (by decide +kernel) rfl, by decide +kernel, by decide, plainFor_of_name (by decide +kernel), rfl⟩
theorem mX1_comingFrom_v : MV mX1_comingFrom := ⟨inTT 773 (by decide +kernel) rfl, inTT 28 (by decide +kernel) rfl, by decide⟩
theorem mX1_expectWith_ok : MOk mX1_expectWith 2 := ⟨inTT 756 (by decide +kernel) rfl, inTT 86 (by decide +kernel) rfl, by decide +kernel, by decide, plainFor_of_name (by decide +kernel), rfl⟩
theorem mX1_expectWith_v : MV mX1_expectWith := ⟨inTT 754 (by decide +kernel) rfl, inTT 755 (by decide +kernel) rfl, by decide⟩
theorem mX1_expectedIn_ok : MOk mX1_expectedIn 1 := ⟨inTT 784 (by decide +kernel) rfl, inTT 86 (by decide +kernel) rfl, by decide +kernel, by decide, plainFor_of_name (by decide +kernel), rfl⟩
theorem mX1_expectedIn_v : MV mX1_expectedIn := ⟨inTT 782 (by decide +kernel) rfl, inTT 783 (by decide +kernel) rfl, by decide⟩
theorem mX1_foretellBothWays_ok : MOk mX1_foretellBothWays 3 := ⟨inTT 1010 (by decide +kernel) rfl, inTT 86 (by decide +kernel) rfl, by decide +kernel, by decide, plainFor_of_name (by decide +kernel), rfl⟩
theorem mX1_foretellBothWays_v : MV mX1_foretellBothWays := ⟨inTT 1008 (by decide +kernel) rfl, inTT 1009 (by decide +kernel) rfl, by decide⟩
theorem mX1_foretellStreet_ok : MOk mX1_foretellStreet 5 := ⟨inTT 713 (by decide +kernel) rfl, inTT 86 (by decide +kernel) rfl, by decide +kernel, by decide, plainFor_of_name (by decide +kernel), rfl⟩
theorem mX1_foretellStreet_v : MV mX1_foretellStreet := ⟨inTT 712 (by decide +kernel) rfl, inTT 24 (by decide +kernel) rfl, by decide⟩
theorem mX1_foretellWeek_ok : MOk mX1_foretellWeek 3 := ⟨inTT 705 (by decide +kernel) rfl, inTT 86 (by decide +kernel) rfl, by decide +kernel, by decide, plainFor_of_name (by decide +kernel), rfl⟩
theorem mX1_foretellWeek_v : MV mX1_foretellWeek := ⟨inTT 703 (by decide +kernel) rfl, inTT 704 (by decide +kernel) rfl, by decide⟩
theorem mX1_goingFrom_ok : MOk mX1_goingFrom 3 := ⟨inTT 760 (by decide +kernel) rfl, inTT 86 (by decide +kernel) rfl, by decide +kernel, by decide, plainFor_of_name (by decide +kernel), rfl⟩
theorem mX1_goingFrom_v : MV mX1_goingFrom := ⟨inTT 759 (by decide +kernel) rfl, inTT 27 (by decide +kernel) rfl, by decide⟩
theorem mX1_missOfWeek_ok : MOk mX1_missOfWeek 2 := ⟨inTT 946 (by decide +kernel) rfl, inTT 86 (by decide +kernel) rfl, by decide +kernel, by decide, plainFor_of_name (by decide +kernel), rfl⟩
theorem mX1_missOfWeek_v : MV mX1_missOfWeek := ⟨inTT 944 (by decide +kernel) rfl, inTT 945 (by decide +kernel) rfl, by decide⟩
theorem mX1_placeOf_ok : MOk mX1_placeOf 2 := ⟨inTT 770 (by decide +kernel) rfl, inTT 86 (by decide +kernel) rfl, by decide +kernel, by decide, plainFor_of_name (by decide +kernel), rfl⟩
theorem mX1_placeOf_s : MS mX1_placeOf := inTT 769 (by decide +kernel) rfl
theorem mX2_init_ok : MOk mX2_init 0 := ⟨inTT 234 (by decide +kernel) rfl, inTT 85 (by decide +kernel) rfl, by decide +kernel, by decide, plainFor_of_name (by decide +kernel), rfl⟩
theorem mX2_init_i : MI mX2_init := ⟨inTT 233 (by decide +kernel) rfl, rfl, rfl, by decide⟩
theorem mX2_add_ok : MOk mX2_add 2 := ⟨inTT 824 (by decide +kernel) rfl, inTT 85 (by decide +kernel) rfl, by decide +kernel, by decide, plainFor_of_name (by decide +kernel), rfl⟩
theorem mX2_add_v : MV mX2_add := ⟨inTT 822 (by decide +kernel) rfl, inTT 823 (by decide +kernel) rfl, by decide⟩
theorem mX2_commonDivisor_ok : MOk mX2_commonDivisor 0 := ⟨inTT 843 (by decide +kernel) rfl, inTT 85 (by decide +kernel) rfl, by decide +kernel, by decide, plainFor_of_name (by decide +kernel), rfl⟩
theorem mX2_commonDivisor_v : MV mX2_commonDivisor := ⟨inTT 842 (by decide +kernel) rfl, inTT 29 (by decide +kernel) rfl, by decide⟩
theorem mX2_lowestPart_ok : MOk mX2_lowestPart 1 := ⟨inTT 839 (by decide +kernel) rfl, inTT 85 (by decide +kernel) rfl, by decide +kernel, by decide, plainFor_of_name (by decide +kernel), rfl⟩
theorem mX2_lowestPart_v : MV mX2_lowestPart := ⟨inTT 837 (by decide +kernel) rfl, inTT 838 (by decide +kernel) rfl, by decide⟩
theorem mX2_thousandths_ok : MOk mX2_thousandths 0 := ⟨inTT 830 (by decide +kernel) rfl, inTT 85 (by decide +kernel) rfl, by decide +kernel, by decide, plainFor_of_name (by decide +kernel), rfl⟩
theorem mX2_thousandths_v : MV mX2_thousandths := ⟨inTT 828 (by decide +kernel) rfl, inTT 829 (by decide +kernel) rfl, by decide⟩
theorem mX2_toZero_ok : MOk mX2_toZero 0 := ⟨inTT 820 (by decide +kernel) rfl, inTT 85 (by decide +kernel) rfl, by decide +kernel, by decide, plainFor_of_name (by decide +kernel), rfl⟩
theorem mX2_toZero_v : MV mX2_toZero := ⟨inTT 818 (by decide +kernel) rfl, inTT 819 (by decide +kernel) rfl, by decide⟩
theorem mX3_init_ok : MOk mX3_init 2 := ⟨inTT 683 (by decide +kernel) rfl, inTT 98 (by decide +kernel) rfl, by decide +kernel, by decide, plainFor_of_name (by decide +kernel), rfl⟩
theorem mX3_init_i : MI mX3_init := ⟨inTT 682 (by decide +kernel) rfl, rfl, rfl, by decide⟩
theorem mX4_init_ok : MOk mX4_init 0 := ⟨inTT 153 (by decide +kernel) rfl, inTT 82 (by decide +kernel) rfl, by decide +kernel, by decide, plainFor_of_name (by decide +kernel), rfl⟩
theorem mX4_init_i : MI mX4_init := ⟨inTT 152 (by decide +kernel) rfl, rfl, rfl, by decide⟩
theorem mX4_add_ok : MOk mX4_add 1 := ⟨inTT 639 (by decide +kernel) rfl, inTT 82 (by decide +kernel) rfl, by decide +kernel, by decide, plainFor_of_name (by decide +kernel), rfl⟩
theorem mX4_add_v : MV mX4_add := ⟨inTT 638 (by decide +kernel) rfl, inTT 18 (by decide +kernel) rfl, by decide⟩
theorem mX4_fail_ok : MOk mX4_fail 1 := ⟨inTT 623 (by decide +kernel) rfl, inTT 82 (by decide +kernel) rfl, by decide +kernel, by decide, plainFor_of_name (by decide +kernel), rfl⟩
theorem mX4_fail_v : MV mX4_fail := ⟨inTT 622 (by decide +kernel) rfl, inTT 14 (by decide +kernel) rfl, by decide⟩
theorem mX4_goTo_ok : MOk mX4_goTo 1 := ⟨inTT 615 (by decide +kernel) rfl, inTT 82 (by decide +kernel) rfl, by decide +kernel, by decide, plainFor_of_name (by decide +kernel), rfl⟩
theorem mX4_goTo_v : MV mX4_goTo := ⟨inTT 614 (by decide +kernel) rfl, inTT 12 (by decide +kernel) rfl, by decide⟩
theorem mX4_made_ok : MOk mX4_made 0 := ⟨inTT 659 (by decide +kernel) rfl, inTT 82 (by decide +kernel) rfl, by decide +kernel, by decide, plainFor_of_name (by decide +kernel), rfl⟩
theorem mX4_made_v : MV mX4_made := ⟨inTT 657 (by decide +kernel) rfl, inTT 658 (by decide +kernel) rfl, by decide⟩
theorem mX4_read_ok : MOk mX4_read 2 := ⟨inTT 503 (by decide +kernel) rfl, inTT 82 (by decide +kernel) rfl, by decide +kernel, by decide, plainFor_of_name (by decide +kernel), rfl⟩
theorem mX4_read_v : MV mX4_read := ⟨inTT 501 (by decide +kernel) rfl, inTT 502 (by decide +kernel) rfl, by decide⟩
theorem mX4_readClause_ok : MOk mX4_readClause 0 := ⟨inTT 619 (by decide +kernel) rfl, inTT 82 (by decide +kernel) rfl, by decide +kernel, by decide, plainFor_of_name (by decide +kernel), rfl⟩
theorem mX4_readClause_v : MV mX4_readClause := ⟨inTT 618 (by decide +kernel) rfl, inTT 13 (by decide +kernel) rfl, by decide⟩
theorem mX4_readDeeper_ok : MOk mX4_readDeeper 1 := ⟨inTT 655 (by decide +kernel) rfl, inTT 82 (by decide +kernel) rfl, by decide +kernel, by decide, plainFor_of_name (by decide +kernel), rfl⟩
theorem mX4_readDeeper_v : MV mX4_readDeeper := ⟨inTT 654 (by decide +kernel) rfl, inTT 22 (by decide +kernel) rfl, by decide⟩
theorem mX4_readFact_ok : MOk mX4_readFact 1 := ⟨inTT 651 (by decide +kernel) rfl, inTT 82 (by decide +kernel) rfl, by decide +kernel, by decide, plainFor_of_name (by decide +kernel), rfl⟩
theorem mX4_readFact_v : MV mX4_readFact := ⟨inTT 650 (by decide +kernel) rfl, inTT 21 (by decide +kernel) rfl, by decide⟩
theorem mX4_readPart_ok : MOk mX4_readPart 1 := ⟨inTT 647 (by decide +kernel) rfl, inTT 82 (by decide +kernel) rfl, by decide +kernel, by decide, plainFor_of_name (by decide +kernel), rfl⟩
theorem mX4_readPart_v : MV mX4_readPart := ⟨inTT 646 (by decide +kernel) rfl, inTT 20 (by decide +kernel) rfl, by decide⟩
theorem mX4_readSum_ok : MOk mX4_readSum 0 := ⟨inTT 627 (by decide +kernel) rfl, inTT 82 (by decide +kernel) rfl, by decide +kernel, by decide, plainFor_of_name (by decide +kernel), rfl⟩
theorem mX4_readSum_v : MV mX4_readSum := ⟨inTT 626 (by decide +kernel) rfl, inTT 15 (by decide +kernel) rfl, by decide⟩
theorem mX4_readTerm_ok : MOk mX4_readTerm 0 := ⟨inTT 631 (by decide +kernel) rfl, inTT 82 (by decide +kernel) rfl, by decide +kernel, by decide, plainFor_of_name (by decide +kernel), rfl⟩
theorem mX4_readTerm_v : MV mX4_readTerm := ⟨inTT 630 (by decide +kernel) rfl, inTT 16 (by decide +kernel) rfl, by decide⟩
theorem mX4_readTest_ok : MOk mX4_readTest 1 := ⟨inTT 643 (by decide +kernel) rfl, inTT 82 (by decide +kernel) rfl, by decide +kernel, by decide, plainFor_of_name (by decide +kernel), rfl⟩
theorem mX4_readTest_v : MV mX4_readTest := ⟨inTT 642 (by decide +kernel) rfl, inTT 19 (by decide +kernel) rfl, by decide⟩
theorem mX4_readValue_ok : MOk mX4_readValue 0 := ⟨inTT 635 (by decide +kernel) rfl, inTT 82 (by decide +kernel) rfl, by decide +kernel, by decide, plainFor_of_name (by decide +kernel), rfl⟩
theorem mX4_readValue_v : MV mX4_readValue := ⟨inTT 634 (by decide +kernel) rfl, inTT 17 (by decide +kernel) rfl, by decide⟩
theorem mX5_init_ok : MOk mX5_init 0 := ⟨inTT 228 (by decide +kernel) rfl, inTT 84 (by decide +kernel) rfl, by decide +kernel, by decide, plainFor_of_name (by decide +kernel), rfl⟩
theorem mX5_init_i : MI mX5_init := ⟨inTT 227 (by decide +kernel) rfl, rfl, rfl, by decide⟩
theorem mX5_deedsByCars_ok : MOk mX5_deedsByCars 4 := ⟨inTT 890 (by decide +kernel) rfl, inTT 84 (by decide +kernel) rfl, by decide +kernel, by decide, plainFor_of_name (by decide +kernel), rfl⟩
theorem mX5_deedsByCars_v : MV mX5_deedsByCars := ⟨inTT 888 (by decide +kernel) rfl, inTT 889 (by decide +kernel) rfl, by decide⟩
theorem mX5_takeDiffer_ok : MOk mX5_takeDiffer 6 := ⟨inTT 816 (by decide +kernel) rfl, inTT 84 (by decide +kernel) rfl, by decide +kernel, by decide, plainFor_of_name (by decide +kernel), rfl⟩
theorem mX5_takeDiffer_v : MV mX5_takeDiffer := ⟨inTT 814 (by decide +kernel) rfl, inTT 815 (by decide +kernel) rfl, by decide⟩
theorem mX5_takeDifferAtStart_ok : MOk mX5_takeDifferAtStart 5 := ⟨inTT 854 (by decide +kernel) rfl, inTT 84 (by decide +kernel) rfl, by decide +kernel, by decide, plainFor_of_name (by decide +kernel), rfl⟩
theorem mX5_takeDifferAtStart_v : MV mX5_takeDifferAtStart := ⟨inTT 852 (by decide +kernel) rfl, inTT 853 (by decide +kernel) rfl, by decide⟩
theorem mX5_takeShare_ok : MOk mX5_takeShare 5 := ⟨inTT 798 (by decide +kernel) rfl, inTT 84 (by decide +kernel) rfl, by decide +kernel, by decide, plainFor_of_name (by decide +kernel), rfl⟩
theorem mX5_takeShare_v : MV mX5_takeShare := ⟨inTT 796 (by decide +kernel) rfl, inTT 797 (by decide +kernel) rfl, by decide⟩
theorem mX5_takeWhere_ok : MOk mX5_takeWhere 2 := ⟨inTT 911 (by decide +kernel) rfl, inTT 84 (by decide +kernel) rfl, by decide +kernel, by decide, plainFor_of_name (by decide +kernel), rfl⟩
theorem mX5_takeWhere_v : MV mX5_takeWhere := ⟨inTT 909 (by decide +kernel) rfl, inTT 910 (by decide +kernel) rfl, by decide⟩
theorem mX6_init_ok : MOk mX6_init 0 := ⟨inTT 267 (by decide +kernel) rfl, inTT 87 (by decide +kernel) rfl, by decide +kernel, by decide, plainFor_of_name (by decide +kernel), rfl⟩
theorem mX6_init_i : MI mX6_init := ⟨inTT 266 (by decide +kernel) rfl, rfl, rfl, by decide⟩
theorem mX6_joined_ok : MOk mX6_joined 3 := ⟨inTT 745 (by decide +kernel) rfl, inTT 87 (by decide +kernel) rfl, by decide +kernel, by decide, plainFor_of_name (by decide +kernel), rfl⟩
theorem mX6_joined_s : MS mX6_joined := inTT 744 (by decide +kernel) rfl
theorem mX6_reckon_ok : MOk mX6_reckon 3 := ⟨inTT 737 (by decide +kernel) rfl, inTT 87 (by decide +kernel) rfl, by decide +kernel, by decide, plainFor_of_name (by decide +kernel), rfl⟩
theorem mX6_reckon_v : MV mX6_reckon := ⟨inTT 736 (by decide +kernel) rfl, inTT 25 (by decide +kernel) rfl, by decide⟩
theorem mX6_setGuardAndRing_ok : MOk mX6_setGuardAndRing 2 := ⟨inTT 728 (by decide +kernel) rfl, inTT 87 (by decide +kernel) rfl, by decide +kernel, by decide, plainFor_of_name (by decide +kernel), rfl⟩
theorem mX6_setGuardAndRing_v : MV mX6_setGuardAndRing := ⟨inTT 726 (by decide +kernel) rfl, inTT 727 (by decide +kernel) rfl, by decide⟩
theorem mX6_setWords_ok : MOk mX6_setWords 4 := ⟨inTT 718 (by decide +kernel) rfl, inTT 87 (by decide +kernel) rfl, by decide +kernel, by decide, plainFor_of_name (by decide +kernel), rfl⟩
theorem mX6_setWords_v : MV mX6_setWords := ⟨inTT 716 (by decide +kernel) rfl, inTT 717 (by decide +kernel) rfl, by decide⟩
theorem mX6_sumOf_ok : MOk mX6_sumOf 4 := ⟨inTT 733 (by decide +kernel) rfl, inTT 87 (by decide +kernel) rfl, by decide +kernel, by decide, plainFor_of_name (by decide +kernel), rfl⟩
theorem mX6_sumOf_v : MV mX6_sumOf := ⟨inTT 731 (by decide +kernel) rfl, inTT 732 (by decide +kernel) rfl, by decide⟩
theorem mX6_wordWorth_ok : MOk mX6_wordWorth 1 := ⟨inTT 742 (by decide +kernel) rfl, inTT 87 (by decide +kernel) rfl, by decide +kernel, by decide, plainFor_of_name (by decide +kernel), rfl⟩
theorem mX6_wordWorth_v : MV mX6_wordWorth := ⟨inTT 741 (by decide +kernel) rfl, inTT 26 (by decide +kernel) rfl, by decide⟩
theorem mX7_init_ok : MOk mX7_init 0 := ⟨inTT 159 (by decide +kernel) rfl, inTT 83 (by decide +kernel) rfl, by decide +kernel, by decide, plainFor_of_name (by decide +kernel), rfl⟩
theorem mX7_init_i : MI mX7_init := ⟨inTT 158 (by decide +kernel) rfl, rfl, rfl, by decide⟩
theorem mX7_add_ok : MOk mX7_add 3 := ⟨inTT 596 (by decide +kernel) rfl, inTT 83 (by decide +kernel) rfl, by decide +kernel, by decide, plainFor_of_name (by decide +kernel), rfl⟩
theorem mX7_add_v : MV mX7_add := ⟨inTT 595 (by decide +kernel) rfl, inTT 8 (by decide +kernel) rfl, by decide⟩
theorem mX7_byteAt_ok : MOk mX7_byteAt 1 := ⟨inTT 515 (by decide +kernel) rfl, inTT 83 (by decide +kernel) rfl, by decide +kernel, by decide, plainFor_of_name (by decide +kernel), rfl⟩
theorem mX7_byteAt_v : MV mX7_byteAt := ⟨inTT 514 (by decide +kernel) rfl, inTT 5 (by decide +kernel) rfl, by decide⟩
theorem mX7_cut_ok : MOk mX7_cut 2 := ⟨inTT 507 (by decide +kernel) rfl, inTT 83 (by decide +kernel) rfl, by decide +kernel, by decide, plainFor_of_name (by decide +kernel), rfl⟩
theorem mX7_cut_v : MV mX7_cut := ⟨inTT 505 (by decide +kernel) rfl, inTT 506 (by decide +kernel) rfl, by decide⟩
theorem mX7_cutMark_ok : MOk mX7_cutMark 2 := ⟨inTT 607 (by decide +kernel) rfl, inTT 83 (by decide +kernel) rfl, by decide +kernel, by decide, plainFor_of_name (by decide +kernel), rfl⟩
theorem mX7_cutMark_v : MV mX7_cutMark := ⟨inTT 606 (by decide +kernel) rfl, inTT 10 (by decide +kernel) rfl, by decide⟩
theorem mX7_cutNext_ok : MOk mX7_cutNext 0 := ⟨inTT 511 (by decide +kernel) rfl, inTT 83 (by decide +kernel) rfl, by decide +kernel, by decide, plainFor_of_name (by decide +kernel), rfl⟩
theorem mX7_cutNext_v : MV mX7_cutNext := ⟨inTT 510 (by decide +kernel) rfl, inTT 4 (by decide +kernel) rfl, by decide⟩
theorem mX7_cutNumber_ok : MOk mX7_cutNumber 1 := ⟨inTT 603 (by decide +kernel) rfl, inTT 83 (by decide +kernel) rfl, by decide +kernel, by decide, plainFor_of_name (by decide +kernel), rfl⟩
theorem mX7_cutNumber_v : MV mX7_cutNumber := ⟨inTT 602 (by decide +kernel) rfl, inTT 9 (by decide +kernel) rfl, by decide⟩
theorem mX7_cutWord_ok : MOk mX7_cutWord 1 := ⟨inTT 522 (by decide +kernel) rfl, inTT 83 (by decide +kernel) rfl, by decide +kernel, by decide, plainFor_of_name (by decide +kernel), rfl⟩
theorem mX7_cutWord_v : MV mX7_cutWord := ⟨inTT 521 (by decide +kernel) rfl, inTT 6 (by decide +kernel) rfl, by decide⟩
theorem mX7_isDigit_ok : MOk mX7_isDigit 1 := ⟨inTT 599 (by decide +kernel) rfl, inTT 83 (by decide +kernel) rfl, by decide +kernel, by decide, plainFor_of_name (by decide +kernel), rfl⟩
theorem mX7_isDigit_s : MS mX7_isDigit := inTT 598 (by decide +kernel) rfl
theorem mX7_isEqualNext_ok : MOk mX7_isEqualNext 0 := ⟨inTT 611 (by decide +kernel) rfl, inTT 83 (by decide +kernel) rfl, by decide +kernel, by decide, plainFor_of_name (by decide +kernel), rfl⟩
theorem mX7_isEqualNext_v : MV mX7_isEqualNext := ⟨inTT 610 (by decide +kernel) rfl, inTT 11 (by decide +kernel) rfl, by decide⟩
theorem mX7_isLetter_ok : MOk mX7_isLetter 1 := ⟨inTT 518 (by decide +kernel) rfl, inTT 83 (by decide +kernel) rfl, by decide +kernel, by decide, plainFor_of_name (by decide +kernel), rfl⟩
theorem mX7_isLetter_s : MS mX7_isLetter := inTT 517 (by decide +kernel) rfl
theorem mX7_isWord_ok : MOk mX7_isWord 2 := ⟨inTT 544 (by decide +kernel) rfl, inTT 83 (by decide +kernel) rfl, by decide +kernel, by decide, plainFor_of_name (by decide +kernel), rfl⟩
theorem mX7_isWord_v : MV mX7_isWord := ⟨inTT 543 (by decide +kernel) rfl, inTT 7 (by decide +kernel) rfl, by decide⟩
theorem mX7_wordAt_ok : MOk mX7_wordAt 1 := ⟨inTT 525 (by decide +kernel) rfl, inTT 83 (by decide +kernel) rfl, by decide +kernel, by decide, plainFor_of_name (by decide +kernel), rfl⟩
theorem mX7_wordAt_s : MS mX7_wordAt := inTT 524 (by decide +kernel) rfl
theorem mX8_init_ok : MOk mX8_init 0 := ⟨inTT 376 (by decide +kernel) rfl, inTT 90 (by decide +kernel) rfl, by decide +kernel, by decide, plainFor_of_name (by decide +kernel), rfl⟩
theorem mX8_init_i : MI mX8_init := ⟨inTT 375 (by decide +kernel) rfl, rfl, rfl, by decide⟩
theorem mX8_apartFrom_ok : MOk mX8_apartFrom 1 := ⟨inTT 920 (by decide +kernel) rfl, inTT 90 (by decide +kernel) rfl, by decide +kernel, by decide, plainFor_of_name (by decide +kernel), rfl⟩
theorem mX8_apartFrom_v : MV mX8_apartFrom := ⟨inTT 918 (by decide +kernel) rfl, inTT 919 (by decide +kernel) rfl, by decide⟩
theorem mX8_become_ok : MOk mX8_become 3 := ⟨inTT 410 (by decide +kernel) rfl, inTT 90 (by decide +kernel) rfl, by decide +kernel, by decide, plainFor_of_name (by decide +kernel), rfl⟩
theorem mX8_become_v : MV mX8_become := ⟨inTT 408 (by decide +kernel) rfl, inTT 409 (by decide +kernel) rfl, by decide⟩
theorem mX8_becomeLike_ok : MOk mX8_becomeLike 1 := ⟨inTT 1030 (by decide +kernel) rfl, inTT 90 (by decide +kernel) rfl, by decide +kernel, by decide, plainFor_of_name (by decide +kernel), rfl⟩
theorem mX8_becomeLike_v : MV mX8_becomeLike := ⟨inTT 1028 (by decide +kernel) rfl, inTT 1029 (by decide +kernel) rfl, by decide⟩
theorem mX8_bookAt_ok : MOk mX8_bookAt 2 := ⟨inTT 464 (by decide +kernel) rfl, inTT 90 (by decide +kernel) rfl, by decide +kernel, by decide, plainFor_of_name (by decide +kernel), rfl⟩
theorem mX8_bookAt_v : MV mX8_bookAt := ⟨inTT 462 (by decide +kernel) rfl, inTT 463 (by decide +kernel) rfl, by decide⟩
theorem mX8_filmAt_ok : MOk mX8_filmAt 1 := ⟨inTT 479 (by decide +kernel) rfl, inTT 90 (by decide +kernel) rfl, by decide +kernel, by decide, plainFor_of_name (by decide +kernel), rfl⟩
theorem mX8_filmAt_v : MV mX8_filmAt := ⟨inTT 477 (by decide +kernel) rfl, inTT 478 (by decide +kernel) rfl, by decide⟩
theorem mX8_setBook_ok : MOk mX8_setBook 3 := ⟨inTT 468 (by decide +kernel) rfl, inTT 90 (by decide +kernel) rfl, by decide +kernel, by decide, plainFor_of_name (by decide +kernel), rfl⟩
theorem mX8_setBook_v : MV mX8_setBook := ⟨inTT 466 (by decide +kernel) rfl, inTT 467 (by decide +kernel) rfl, by decide⟩
theorem mX8_setFilm_ok : MOk mX8_setFilm 2 := ⟨inTT 483 (by decide +kernel) rfl, inTT 90 (by decide +kernel) rfl, by decide +kernel, by decide, plainFor_of_name (by decide +kernel), rfl⟩
theorem mX8_setFilm_v : MV mX8_setFilm := ⟨inTT 481 (by decide +kernel) rfl, inTT 482 (by decide +kernel) rfl, by decide⟩
theorem mX9_init_ok : MOk mX9_init 0 := ⟨inTT 112 (by decide +kernel) rfl, inTT 81 (by decide +kernel) rfl, by decide +kernel, by decide, plainFor_of_name (by decide +kernel), rfl⟩
theorem mX9_init_i : MI mX9_init := ⟨inTT 111 (by decide +kernel) rfl, rfl, rfl, by decide⟩
theorem mX9_addStreet_ok : MOk mX9_addStreet 3 := ⟨inTT 368 (by decide +kernel) rfl, inTT 81 (by decide +kernel) rfl, by decide +kernel, by decide, plainFor_of_name (by decide +kernel), rfl⟩
theorem mX9_addStreet_v : MV mX9_addStreet := ⟨inTT 366 (by decide +kernel) rfl, inTT 367 (by decide +kernel) rfl, by decide⟩
theorem mX9_becomeLike_ok : MOk mX9_becomeLike 1 := ⟨inTT 1026 (by decide +kernel) rfl, inTT 81 (by decide +kernel) rfl, by decide +kernel, by decide, plainFor_of_name (by decide +kernel), rfl⟩
theorem mX9_becomeLike_v : MV mX9_becomeLike := ⟨inTT 1024 (by decide +kernel) rfl, inTT 1025 (by decide +kernel) rfl, by decide⟩
theorem mX9_menIn_ok : MOk mX9_menIn 1 := ⟨inTT 709 (by decide +kernel) rfl, inTT 81 (by decide +kernel) rfl, by decide +kernel, by decide, plainFor_of_name (by decide +kernel), rfl⟩
theorem mX9_menIn_v : MV mX9_menIn := ⟨inTT 707 (by decide +kernel) rfl, inTT 708 (by decide +kernel) rfl, by decide⟩
theorem mX9_neighboursOf_ok : MOk mX9_neighboursOf 1 := ⟨inTT 432 (by decide +kernel) rfl, inTT 81 (by decide +kernel) rfl, by decide +kernel, by decide, plainFor_of_name (by decide +kernel), rfl⟩
theorem mX9_neighboursOf_v : MV mX9_neighboursOf := ⟨inTT 430 (by decide +kernel) rfl, inTT 431 (by decide +kernel) rfl, by decide⟩
theorem mX9_neighboursOfSet_ok : MOk mX9_neighboursOfSet 1 := ⟨inTT 428 (by decide +kernel) rfl, inTT 81 (by decide +kernel) rfl, by decide +kernel, by decide, plainFor_of_name (by decide +kernel), rfl⟩
theorem mX9_neighboursOfSet_v : MV mX9_neighboursOfSet := ⟨inTT 427 (by decide +kernel) rfl, inTT 2 (by decide +kernel) rfl, by decide⟩
theorem mX9_ownStreet_ok : MOk mX9_ownStreet 1 := ⟨inTT 372 (by decide +kernel) rfl, inTT 81 (by decide +kernel) rfl, by decide +kernel, by decide, plainFor_of_name (by decide +kernel), rfl⟩
theorem mX9_ownStreet_v : MV mX9_ownStreet := ⟨inTT 371 (by decide +kernel) rfl, inTT 0 (by decide +kernel) rfl, by decide⟩
theorem mX9_pairsBeside_ok : MOk mX9_pairsBeside 0 := ⟨inTT 1043 (by decide +kernel) rfl, inTT 81 (by decide +kernel) rfl, by decide +kernel, by decide, plainFor_of_name (by decide +kernel), rfl⟩
theorem mX9_pairsBeside_v : MV mX9_pairsBeside := ⟨inTT 1041 (by decide +kernel) rfl, inTT 1042 (by decide +kernel) rfl, by decide⟩
theorem mX9_ringOf_ok : MOk mX9_ringOf 1 := ⟨inTT 448 (by decide +kernel) rfl, inTT 81 (by decide +kernel) rfl, by decide +kernel, by decide, plainFor_of_name (by decide +kernel), rfl⟩
theorem mX9_ringOf_v : MV mX9_ringOf := ⟨inTT 446 (by decide +kernel) rfl, inTT 447 (by decide +kernel) rfl, by decide⟩
theorem mX9_setBeside_ok : MOk mX9_setBeside 3 := ⟨inTT 440 (by decide +kernel) rfl, inTT 81 (by decide +kernel) rfl, by decide +kernel, by decide, plainFor_of_name (by decide +kernel), rfl⟩
theorem mX9_setBeside_v : MV mX9_setBeside := ⟨inTT 438 (by decide +kernel) rfl, inTT 439 (by decide +kernel) rfl, by decide⟩
theorem mX9_setRings_ok : MOk mX9_setRings 0 := ⟨inTT 420 (by decide +kernel) rfl, inTT 81 (by decide +kernel) rfl, by decide +kernel, by decide, plainFor_of_name (by decide +kernel), rfl⟩
theorem mX9_setRings_v : MV mX9_setRings := ⟨inTT 419 (by decide +kernel) rfl, inTT 1 (by decide +kernel) rfl, by decide⟩
theorem mX9_sizeOfRing_ok : MOk mX9_sizeOfRing 1 := ⟨inTT 868 (by decide +kernel) rfl, inTT 81 (by decide +kernel) rfl, by decide +kernel, by decide, plainFor_of_name (by decide +kernel), rfl⟩
theorem mX9_sizeOfRing_v : MV mX9_sizeOfRing := ⟨inTT 866 (by decide +kernel) rfl, inTT 867 (by decide +kernel) rfl, by decide⟩
theorem mX9_streetAt_ok : MOk mX9_streetAt 1 := ⟨inTT 424 (by decide +kernel) rfl, inTT 81 (by decide +kernel) rfl, by decide +kernel, by decide, plainFor_of_name (by decide +kernel), rfl⟩
theorem mX9_streetAt_v : MV mX9_streetAt := ⟨inTT 422 (by decide +kernel) rfl, inTT 423 (by decide +kernel) rfl, by decide⟩
theorem mX9_tellsOfThefts_ok : MOk mX9_tellsOfThefts 1 := ⟨inTT 941 (by decide +kernel) rfl, inTT 81 (by decide +kernel) rfl, by decide +kernel, by decide, plainFor_of_name (by decide +kernel), rfl⟩
theorem mX9_tellsOfThefts_v : MV mX9_tellsOfThefts := ⟨inTT 939 (by decide +kernel) rfl, inTT 940 (by decide +kernel) rfl, by decide⟩
theorem mX9_weeksSince_ok : MOk mX9_weeksSince 1 := ⟨inTT 722 (by decide +kernel) rfl, inTT 81 (by decide +kernel) rfl, by decide +kernel, by decide, plainFor_of_name (by decide +kernel), rfl⟩
theorem mX9_weeksSince_v : MV mX9_weeksSince := ⟨inTT 720 (by decide +kernel) rfl, inTT 721 (by decide +kernel) rfl, by decide⟩
theorem mX10_init_ok : MOk mX10_init 0 := ⟨inTT 104 (by decide +kernel) rfl, inTT 80 (by decide +kernel) rfl, by decide +kernel, by decide, plainFor_of_name (by decide +kernel), rfl⟩
theorem mX10_init_i : MI mX10_init := ⟨inTT 103 (by decide +kernel) rfl, rfl, rfl, by decide⟩
theorem mX10_alike_ok : MOk mX10_alike 5 := ⟨inTT 850 (by decide +kernel) rfl, inTT 80 (by decide +kernel) rfl, by decide +kernel, by decide, plainFor_of_name (by decide +kernel), rfl⟩
theorem mX10_alike_v : MV mX10_alike := ⟨inTT 848 (by decide +kernel) rfl, inTT 849 (by decide +kernel) rfl, by decide⟩
theorem mX10_areUnlikeRings_ok : MOk mX10_areUnlikeRings 2 := ⟨inTT 808 (by decide +kernel) rfl, inTT 80 (by decide +kernel) rfl, by decide +kernel, by decide, plainFor_of_name (by decide +kernel), rfl⟩
theorem mX10_areUnlikeRings_s : MS mX10_areUnlikeRings := inTT 807 (by decide +kernel) rfl
theorem mX10_back_ok : MOk mX10_back 1 := ⟨inTT 1035 (by decide +kernel) rfl, inTT 80 (by decide +kernel) rfl, by decide +kernel, by decide, plainFor_of_name (by decide +kernel), rfl⟩
theorem mX10_back_v : MV mX10_back := ⟨inTT 1033 (by decide +kernel) rfl, inTT 1034 (by decide +kernel) rfl, by decide⟩
theorem mX10_beside_ok : MOk mX10_beside 3 := ⟨inTT 436 (by decide +kernel) rfl, inTT 80 (by decide +kernel) rfl, by decide +kernel, by decide, plainFor_of_name (by decide +kernel), rfl⟩
theorem mX10_beside_v : MV mX10_beside := ⟨inTT 434 (by decide +kernel) rfl, inTT 435 (by decide +kernel) rfl, by decide⟩
theorem mX10_best_ok : MOk mX10_best 4 := ⟨inTT 952 (by decide +kernel) rfl, inTT 80 (by decide +kernel) rfl, by decide +kernel, by decide, plainFor_of_name (by decide +kernel), rfl⟩
theorem mX10_best_v : MV mX10_best := ⟨inTT 950 (by decide +kernel) rfl, inTT 951 (by decide +kernel) rfl, by decide⟩
theorem mX10_book_ok : MOk mX10_book 4 := ⟨inTT 456 (by decide +kernel) rfl, inTT 80 (by decide +kernel) rfl, by decide +kernel, by decide, plainFor_of_name (by decide +kernel), rfl⟩
theorem mX10_book_v : MV mX10_book := ⟨inTT 454 (by decide +kernel) rfl, inTT 455 (by decide +kernel) rfl, by decide⟩
theorem mX10_by_ok : MOk mX10_by 4 := ⟨inTT 697 (by decide +kernel) rfl, inTT 80 (by decide +kernel) rfl, by decide +kernel, by decide, plainFor_of_name (by decide +kernel), rfl⟩
theorem mX10_by_v : MV mX10_by := ⟨inTT 695 (by decide +kernel) rfl, inTT 696 (by decide +kernel) rfl, by decide⟩
theorem mX10_cars_ok : MOk mX10_cars 3 := ⟨inTT 885 (by decide +kernel) rfl, inTT 80 (by decide +kernel) rfl, by decide +kernel, by decide, plainFor_of_name (by decide +kernel), rfl⟩
theorem mX10_cars_v : MV mX10_cars := ⟨inTT 883 (by decide +kernel) rfl, inTT 884 (by decide +kernel) rfl, by decide⟩
theorem mX10_change_ok : MOk mX10_change 2 := ⟨inTT 471 (by decide +kernel) rfl, inTT 80 (by decide +kernel) rfl, by decide +kernel, by decide, plainFor_of_name (by decide +kernel), rfl⟩
theorem mX10_change_s : MS mX10_change := inTT 470 (by decide +kernel) rfl
theorem mX10_clock_ok : MOk mX10_clock 1 := ⟨inTT 354 (by decide +kernel) rfl, inTT 80 (by decide +kernel) rfl, by decide +kernel, by decide, plainFor_of_name (by decide +kernel), rfl⟩
theorem mX10_clock_v : MV mX10_clock := ⟨inTT 352 (by decide +kernel) rfl, inTT 353 (by decide +kernel) rfl, by decide⟩
theorem mX10_cost_ok : MOk mX10_cost 2 := ⟨inTT 902 (by decide +kernel) rfl, inTT 80 (by decide +kernel) rfl, by decide +kernel, by decide, plainFor_of_name (by decide +kernel), rfl⟩
theorem mX10_cost_v : MV mX10_cost := ⟨inTT 900 (by decide +kernel) rfl, inTT 901 (by decide +kernel) rfl, by decide⟩
theorem mX10_count_ok : MOk mX10_count 1 := ⟨inTT 1039 (by decide +kernel) rfl, inTT 80 (by decide +kernel) rfl, by decide +kernel, by decide, plainFor_of_name (by decide +kernel), rfl⟩
theorem mX10_count_v : MV mX10_count := ⟨inTT 1037 (by decide +kernel) rfl, inTT 1038 (by decide +kernel) rfl, by decide⟩
theorem mX10_deeds_ok : MOk mX10_deeds 2 := ⟨inTT 927 (by decide +kernel) rfl, inTT 80 (by decide +kernel) rfl, by decide +kernel, by decide, plainFor_of_name (by decide +kernel), rfl⟩
theorem mX10_deeds_v : MV mX10_deeds := ⟨inTT 925 (by decide +kernel) rfl, inTT 926 (by decide +kernel) rfl, by decide⟩
theorem mX10_differ_ok : MOk mX10_differ 6 := ⟨inTT 805 (by decide +kernel) rfl, inTT 80 (by decide +kernel) rfl, by decide +kernel, by decide, plainFor_of_name (by decide +kernel), rfl⟩
theorem mX10_differ_v : MV mX10_differ := ⟨inTT 803 (by decide +kernel) rfl, inTT 804 (by decide +kernel) rfl, by decide⟩
theorem mX10_dividedUpwards_ok : MOk mX10_dividedUpwards 2 := ⟨inTT 880 (by decide +kernel) rfl, inTT 80 (by decide +kernel) rfl, by decide +kernel, by decide, plainFor_of_name (by decide +kernel), rfl⟩
theorem mX10_dividedUpwards_s : MS mX10_dividedUpwards := inTT 879 (by decide +kernel) rfl
theorem mX10_edge_ok : MOk mX10_edge 1 := ⟨inTT 897 (by decide +kernel) rfl, inTT 80 (by decide +kernel) rfl, by decide +kernel, by decide, plainFor_of_name (by decide +kernel), rfl⟩
theorem mX10_edge_v : MV mX10_edge := ⟨inTT 895 (by decide +kernel) rfl, inTT 896 (by decide +kernel) rfl, by decide⟩
theorem mX10_end_ok : MOk mX10_end 1 := ⟨inTT 495 (by decide +kernel) rfl, inTT 80 (by decide +kernel) rfl, by decide +kernel, by decide, plainFor_of_name (by decide +kernel), rfl⟩
theorem mX10_end_v : MV mX10_end := ⟨inTT 493 (by decide +kernel) rfl, inTT 494 (by decide +kernel) rfl, by decide⟩
theorem mX10_feed_ok : MOk mX10_feed 5 := ⟨inTT 487 (by decide +kernel) rfl, inTT 80 (by decide +kernel) rfl, by decide +kernel, by decide, plainFor_of_name (by decide +kernel), rfl⟩
theorem mX10_feed_v : MV mX10_feed := ⟨inTT 485 (by decide +kernel) rfl, inTT 486 (by decide +kernel) rfl, by decide⟩
theorem mX10_feedNumber_ok : MOk mX10_feedNumber 1 := ⟨inTT 491 (by decide +kernel) rfl, inTT 80 (by decide +kernel) rfl, by decide +kernel, by decide, plainFor_of_name (by decide +kernel), rfl⟩
theorem mX10_feedNumber_v : MV mX10_feedNumber := ⟨inTT 490 (by decide +kernel) rfl, inTT 3 (by decide +kernel) rfl, by decide⟩
theorem mX10_film_ok : MOk mX10_film 3 := ⟨inTT 475 (by decide +kernel) rfl, inTT 80 (by decide +kernel) rfl, by decide +kernel, by decide, plainFor_of_name (by decide +kernel), rfl⟩
theorem mX10_film_v : MV mX10_film := ⟨inTT 473 (by decide +kernel) rfl, inTT 474 (by decide +kernel) rfl, by decide⟩
theorem mX10_image_ok : MOk mX10_image 1 := ⟨inTT 1022 (by decide +kernel) rfl, inTT 80 (by decide +kernel) rfl, by decide +kernel, by decide, plainFor_of_name (by decide +kernel), rfl⟩
theorem mX10_image_v : MV mX10_image := ⟨inTT 1020 (by decide +kernel) rfl, inTT 1021 (by decide +kernel) rfl, by decide⟩
theorem mX10_isDeed_ok : MOk mX10_isDeed 1 := ⟨inTT 460 (by decide +kernel) rfl, inTT 80 (by decide +kernel) rfl, by decide +kernel, by decide, plainFor_of_name (by decide +kernel), rfl⟩
theorem mX10_isDeed_s : MS mX10_isDeed := inTT 459 (by decide +kernel) rfl
theorem mX10_isLength_ok : MOk mX10_isLength 1 := ⟨inTT 811 (by decide +kernel) rfl, inTT 80 (by decide +kernel) rfl, by decide +kernel, by decide, plainFor_of_name (by decide +kernel), rfl⟩
theorem mX10_isLength_s : MS mX10_isLength := inTT 810 (by decide +kernel) rfl
theorem mX10_isRing_ok : MOk mX10_isRing 1 := ⟨inTT 791 (by decide +kernel) rfl, inTT 80 (by decide +kernel) rfl, by decide +kernel, by decide, plainFor_of_name (by decide +kernel), rfl⟩
theorem mX10_isRing_s : MS mX10_isRing := inTT 790 (by decide +kernel) rfl
theorem mX10_isSpan_ok : MOk mX10_isSpan 2 := ⟨inTT 794 (by decide +kernel) rfl, inTT 80 (by decide +kernel) rfl, by decide +kernel, by decide, plainFor_of_name (by decide +kernel), rfl⟩
theorem mX10_isSpan_s : MS mX10_isSpan := inTT 793 (by decide +kernel) rfl
theorem mX10_isWeek_ok : MOk mX10_isWeek 1 := ⟨inTT 357 (by decide +kernel) rfl, inTT 80 (by decide +kernel) rfl, by decide +kernel, by decide, plainFor_of_name (by decide +kernel), rfl⟩
theorem mX10_isWeek_s : MS mX10_isWeek := inTT 356 (by decide +kernel) rfl
theorem mX10_isWithin_ok : MOk mX10_isWithin 3 := ⟨inTT 360 (by decide +kernel) rfl, inTT 80 (by decide +kernel) rfl, by decide +kernel, by decide, plainFor_of_name (by decide +kernel), rfl⟩
theorem mX10_isWithin_s : MS mX10_isWithin := inTT 359 (by decide +kernel) rfl
theorem mX10_keptOff_ok : MOk mX10_keptOff 1 := ⟨inTT 864 (by decide +kernel) rfl, inTT 80 (by decide +kernel) rfl, by decide +kernel, by decide, plainFor_of_name (by decide +kernel), rfl⟩
theorem mX10_keptOff_v : MV mX10_keptOff := ⟨inTT 863 (by decide +kernel) rfl, inTT 30 (by decide +kernel) rfl, by decide⟩
theorem mX10_law_ok : MOk mX10_law 0 := ⟨inTT 499 (by decide +kernel) rfl, inTT 80 (by decide +kernel) rfl, by decide +kernel, by decide, plainFor_of_name (by decide +kernel), rfl⟩
theorem mX10_law_v : MV mX10_law := ⟨inTT 497 (by decide +kernel) rfl, inTT 498 (by decide +kernel) rfl, by decide⟩
theorem mX10_lawAt_ok : MOk mX10_lawAt 1 := ⟨inTT 701 (by decide +kernel) rfl, inTT 80 (by decide +kernel) rfl, by decide +kernel, by decide, plainFor_of_name (by decide +kernel), rfl⟩
theorem mX10_lawAt_v : MV mX10_lawAt := ⟨inTT 700 (by decide +kernel) rfl, inTT 23 (by decide +kernel) rfl, by decide⟩
theorem mX10_like_ok : MOk mX10_like 1 := ⟨inTT 916 (by decide +kernel) rfl, inTT 80 (by decide +kernel) rfl, by decide +kernel, by decide, plainFor_of_name (by decide +kernel), rfl⟩
theorem mX10_like_v : MV mX10_like := ⟨inTT 914 (by decide +kernel) rfl, inTT 915 (by decide +kernel) rfl, by decide⟩
theorem mX10_miss_ok : MOk mX10_miss 3 := ⟨inTT 933 (by decide +kernel) rfl, inTT 80 (by decide +kernel) rfl, by decide +kernel, by decide, plainFor_of_name (by decide +kernel), rfl⟩
theorem mX10_miss_v : MV mX10_miss := ⟨inTT 931 (by decide +kernel) rfl, inTT 932 (by decide +kernel) rfl, by decide⟩
theorem mX10_missOf_ok : MOk mX10_missOf 3 := ⟨inTT 937 (by decide +kernel) rfl, inTT 80 (by decide +kernel) rfl, by decide +kernel, by decide, plainFor_of_name (by decide +kernel), rfl⟩
theorem mX10_missOf_v : MV mX10_missOf := ⟨inTT 936 (by decide +kernel) rfl, inTT 32 (by decide +kernel) rfl, by decide⟩
theorem mX10_nextDoor_ok : MOk mX10_nextDoor 1 := ⟨inTT 873 (by decide +kernel) rfl, inTT 80 (by decide +kernel) rfl, by decide +kernel, by decide, plainFor_of_name (by decide +kernel), rfl⟩
theorem mX10_nextDoor_v : MV mX10_nextDoor := ⟨inTT 872 (by decide +kernel) rfl, inTT 31 (by decide +kernel) rfl, by decide⟩
theorem mX10_off_ok : MOk mX10_off 2 := ⟨inTT 860 (by decide +kernel) rfl, inTT 80 (by decide +kernel) rfl, by decide +kernel, by decide, plainFor_of_name (by decide +kernel), rfl⟩
theorem mX10_off_v : MV mX10_off := ⟨inTT 858 (by decide +kernel) rfl, inTT 859 (by decide +kernel) rfl, by decide⟩
theorem mX10_partedBy_ok : MOk mX10_partedBy 1 := ⟨inTT 1015 (by decide +kernel) rfl, inTT 80 (by decide +kernel) rfl, by decide +kernel, by decide, plainFor_of_name (by decide +kernel), rfl⟩
theorem mX10_partedBy_v : MV mX10_partedBy := ⟨inTT 1014 (by decide +kernel) rfl, inTT 34 (by decide +kernel) rfl, by decide⟩
theorem mX10_plan_ok : MOk mX10_plan 4 := ⟨inTT 1005 (by decide +kernel) rfl, inTT 80 (by decide +kernel) rfl, by decide +kernel, by decide, plainFor_of_name (by decide +kernel), rfl⟩
theorem mX10_plan_v : MV mX10_plan := ⟨inTT 1003 (by decide +kernel) rfl, inTT 1004 (by decide +kernel) rfl, by decide⟩
theorem mX10_ring_ok : MOk mX10_ring 1 := ⟨inTT 444 (by decide +kernel) rfl, inTT 80 (by decide +kernel) rfl, by decide +kernel, by decide, plainFor_of_name (by decide +kernel), rfl⟩
theorem mX10_ring_v : MV mX10_ring := ⟨inTT 442 (by decide +kernel) rfl, inTT 443 (by decide +kernel) rfl, by decide⟩
theorem mX10_run_ok : MOk mX10_run 5 := ⟨inTT 961 (by decide +kernel) rfl, inTT 80 (by decide +kernel) rfl, by decide +kernel, by decide, plainFor_of_name (by decide +kernel), rfl⟩
theorem mX10_run_v : MV mX10_run := ⟨inTT 959 (by decide +kernel) rfl, inTT 960 (by decide +kernel) rfl, by decide⟩
theorem mX10_share_ok : MOk mX10_share 5 := ⟨inTT 788 (by decide +kernel) rfl, inTT 80 (by decide +kernel) rfl, by decide +kernel, by decide, plainFor_of_name (by decide +kernel), rfl⟩
theorem mX10_share_v : MV mX10_share := ⟨inTT 786 (by decide +kernel) rfl, inTT 787 (by decide +kernel) rfl, by decide⟩
theorem mX10_start_ok : MOk mX10_start 1 := ⟨inTT 452 (by decide +kernel) rfl, inTT 80 (by decide +kernel) rfl, by decide +kernel, by decide, plainFor_of_name (by decide +kernel), rfl⟩
theorem mX10_start_v : MV mX10_start := ⟨inTT 450 (by decide +kernel) rfl, inTT 451 (by decide +kernel) rfl, by decide⟩
theorem mX10_stillBy_ok : MOk mX10_stillBy 1 := ⟨inTT 957 (by decide +kernel) rfl, inTT 80 (by decide +kernel) rfl, by decide +kernel, by decide, plainFor_of_name (by decide +kernel), rfl⟩
theorem mX10_stillBy_v : MV mX10_stillBy := ⟨inTT 956 (by decide +kernel) rfl, inTT 33 (by decide +kernel) rfl, by decide⟩
theorem mX10_street_ok : MOk mX10_street 3 := ⟨inTT 364 (by decide +kernel) rfl, inTT 80 (by decide +kernel) rfl, by decide +kernel, by decide, plainFor_of_name (by decide +kernel), rfl⟩
theorem mX10_street_v : MV mX10_street := ⟨inTT 362 (by decide +kernel) rfl, inTT 363 (by decide +kernel) rfl, by decide⟩
theorem mX10_thin_ok : MOk mX10_thin 2 := ⟨inTT 877 (by decide +kernel) rfl, inTT 80 (by decide +kernel) rfl, by decide +kernel, by decide, plainFor_of_name (by decide +kernel), rfl⟩
theorem mX10_thin_v : MV mX10_thin := ⟨inTT 875 (by decide +kernel) rfl, inTT 876 (by decide +kernel) rfl, by decide⟩
theorem mX10_towns_ok : MOk mX10_towns 4 := ⟨inTT 979 (by decide +kernel) rfl, inTT 80 (by decide +kernel) rfl, by decide +kernel, by decide, plainFor_of_name (by decide +kernel), rfl⟩
theorem mX10_towns_v : MV mX10_towns := ⟨inTT 977 (by decide +kernel) rfl, inTT 978 (by decide +kernel) rfl, by decide⟩
theorem mX10_where_ok : MOk mX10_where 2 := ⟨inTT 906 (by decide +kernel) rfl, inTT 80 (by decide +kernel) rfl, by decide +kernel, by decide, plainFor_of_name (by decide +kernel), rfl⟩
theorem mX10_where_v : MV mX10_where := ⟨inTT 904 (by decide +kernel) rfl, inTT 905 (by decide +kernel) rfl, by decide⟩
theorem mX11_init_ok : MOk mX11_init 0 := ⟨inTT 1048 (by decide +kernel) rfl, inTT 89 (by decide +kernel) rfl, by decide +kernel, by decide, plainFor_of_name (by decide +kernel), rfl⟩
theorem mX11_init_i : MI mX11_init := ⟨inTT 1047 (by decide +kernel) rfl, rfl, rfl, by decide⟩
theorem mX11_adds_ok : MOk mX11_adds 1 := ⟨inTT 1471 (by decide +kernel) rfl, inTT 89 (by decide +kernel) rfl, by decide +kernel, by decide, plainFor_of_name (by decide +kernel), rfl⟩
theorem mX11_adds_v : MV mX11_adds := ⟨inTT 1470 (by decide +kernel) rfl, inTT 71 (by decide +kernel) rfl, by decide⟩
theorem mX11_alike_ok : MOk mX11_alike 5 := ⟨inTT 1486 (by decide +kernel) rfl, inTT 89 (by decide +kernel) rfl, by decide +kernel, by decide, plainFor_of_name (by decide +kernel), rfl⟩
theorem mX11_alike_v : MV mX11_alike := ⟨inTT 1484 (by decide +kernel) rfl, inTT 1485 (by decide +kernel) rfl, by decide⟩
theorem mX11_answer_ok : MOk mX11_answer 3 := ⟨inTT 1422 (by decide +kernel) rfl, inTT 89 (by decide +kernel) rfl, by decide +kernel, by decide, plainFor_of_name (by decide +kernel), rfl⟩
theorem mX11_answer_v : MV mX11_answer := ⟨inTT 1421 (by decide +kernel) rfl, inTT 67 (by decide +kernel) rfl, by decide⟩
theorem mX11_answers_ok : MOk mX11_answers 1 := ⟨inTT 1379 (by decide +kernel) rfl, inTT 89 (by decide +kernel) rfl, by decide +kernel, by decide, plainFor_of_name (by decide +kernel), rfl⟩
theorem mX11_answers_v : MV mX11_answers := ⟨inTT 1378 (by decide +kernel) rfl, inTT 59 (by decide +kernel) rfl, by decide⟩
theorem mX11_apart_ok : MOk mX11_apart 2 := ⟨inTT 1528 (by decide +kernel) rfl, inTT 89 (by decide +kernel) rfl, by decide +kernel, by decide, plainFor_of_name (by decide +kernel), rfl⟩
theorem mX11_apart_s : MS mX11_apart := inTT 1527 (by decide +kernel) rfl
theorem mX11_areBeside_ok : MOk mX11_areBeside 2 := ⟨inTT 1229 (by decide +kernel) rfl, inTT 89 (by decide +kernel) rfl, by decide +kernel, by decide, plainFor_of_name (by decide +kernel), rfl⟩
theorem mX11_areBeside_v : MV mX11_areBeside := ⟨inTT 1228 (by decide +kernel) rfl, inTT 36 (by decide +kernel) rfl, by decide⟩
theorem mX11_around_ok : MOk mX11_around 1 := ⟨inTT 1249 (by decide +kernel) rfl, inTT 89 (by decide +kernel) rfl, by decide +kernel, by decide, plainFor_of_name (by decide +kernel), rfl⟩
theorem mX11_around_v : MV mX11_around := ⟨inTT 1248 (by decide +kernel) rfl, inTT 40 (by decide +kernel) rfl, by decide⟩
theorem mX11_at_ok : MOk mX11_at 3 := ⟨inTT 1266 (by decide +kernel) rfl, inTT 89 (by decide +kernel) rfl, by decide +kernel, by decide, plainFor_of_name (by decide +kernel), rfl⟩
theorem mX11_at_s : MS mX11_at := inTT 1265 (by decide +kernel) rfl
theorem mX11_back_ok : MOk mX11_back 1 := ⟨inTT 1589 (by decide +kernel) rfl, inTT 89 (by decide +kernel) rfl, by decide +kernel, by decide, plainFor_of_name (by decide +kernel), rfl⟩
theorem mX11_back_v : MV mX11_back := ⟨inTT 1587 (by decide +kernel) rfl, inTT 1588 (by decide +kernel) rfl, by decide⟩
theorem mX11_beside_ok : MOk mX11_beside 3 := ⟨inTT 1221 (by decide +kernel) rfl, inTT 89 (by decide +kernel) rfl, by decide +kernel, by decide, plainFor_of_name (by decide +kernel), rfl⟩
theorem mX11_beside_v : MV mX11_beside := ⟨inTT 1219 (by decide +kernel) rfl, inTT 1220 (by decide +kernel) rfl, by decide⟩
theorem mX11_best_ok : MOk mX11_best 4 := ⟨inTT 1545 (by decide +kernel) rfl, inTT 89 (by decide +kernel) rfl, by decide +kernel, by decide, plainFor_of_name (by decide +kernel), rfl⟩
theorem mX11_best_v : MV mX11_best := ⟨inTT 1543 (by decide +kernel) rfl, inTT 1544 (by decide +kernel) rfl, by decide⟩
theorem mX11_bits_ok : MOk mX11_bits 1 := ⟨inTT 1436 (by decide +kernel) rfl, inTT 89 (by decide +kernel) rfl, by decide +kernel, by decide, plainFor_of_name (by decide +kernel), rfl⟩
theorem mX11_bits_s : MS mX11_bits := inTT 1435 (by decide +kernel) rfl
theorem mX11_blanks_ok : MOk mX11_blanks 0 := ⟨inTT 1294 (by decide +kernel) rfl, inTT 89 (by decide +kernel) rfl, by decide +kernel, by decide, plainFor_of_name (by decide +kernel), rfl⟩
theorem mX11_blanks_v : MV mX11_blanks := ⟨inTT 1293 (by decide +kernel) rfl, inTT 43 (by decide +kernel) rfl, by decide⟩
theorem mX11_book_ok : MOk mX11_book 4 := ⟨inTT 1258 (by decide +kernel) rfl, inTT 89 (by decide +kernel) rfl, by decide +kernel, by decide, plainFor_of_name (by decide +kernel), rfl⟩
theorem mX11_book_v : MV mX11_book := ⟨inTT 1256 (by decide +kernel) rfl, inTT 1257 (by decide +kernel) rfl, by decide⟩
theorem mX11_both_ok : MOk mX11_both 3 := ⟨inTT 1425 (by decide +kernel) rfl, inTT 89 (by decide +kernel) rfl, by decide +kernel, by decide, plainFor_of_name (by decide +kernel), rfl⟩
theorem mX11_both_s : MS mX11_both := inTT 1424 (by decide +kernel) rfl
theorem mX11_by_ok : MOk mX11_by 4 := ⟨inTT 1389 (by decide +kernel) rfl, inTT 89 (by decide +kernel) rfl, by decide +kernel, by decide, plainFor_of_name (by decide +kernel), rfl⟩
theorem mX11_by_v : MV mX11_by := ⟨inTT 1387 (by decide +kernel) rfl, inTT 1388 (by decide +kernel) rfl, by decide⟩
theorem mX11_carries_ok : MOk mX11_carries 1 := ⟨inTT 1581 (by decide +kernel) rfl, inTT 89 (by decide +kernel) rfl, by decide +kernel, by decide, plainFor_of_name (by decide +kernel), rfl⟩
theorem mX11_carries_v : MV mX11_carries := ⟨inTT 1580 (by decide +kernel) rfl, inTT 77 (by decide +kernel) rfl, by decide⟩
theorem mX11_carry_ok : MOk mX11_carry 1 := ⟨inTT 1585 (by decide +kernel) rfl, inTT 89 (by decide +kernel) rfl, by decide +kernel, by decide, plainFor_of_name (by decide +kernel), rfl⟩
theorem mX11_carry_v : MV mX11_carry := ⟨inTT 1584 (by decide +kernel) rfl, inTT 78 (by decide +kernel) rfl, by decide⟩
theorem mX11_cars_ok : MOk mX11_cars 3 := ⟨inTT 1505 (by decide +kernel) rfl, inTT 89 (by decide +kernel) rfl, by decide +kernel, by decide, plainFor_of_name (by decide +kernel), rfl⟩
theorem mX11_cars_v : MV mX11_cars := ⟨inTT 1503 (by decide +kernel) rfl, inTT 1504 (by decide +kernel) rfl, by decide⟩
theorem mX11_clause_ok : MOk mX11_clause 1 := ⟨inTT 1290 (by decide +kernel) rfl, inTT 89 (by decide +kernel) rfl, by decide +kernel, by decide, plainFor_of_name (by decide +kernel), rfl⟩
theorem mX11_clause_v : MV mX11_clause := ⟨inTT 1289 (by decide +kernel) rfl, inTT 42 (by decide +kernel) rfl, by decide⟩
theorem mX11_clock_ok : MOk mX11_clock 1 := ⟨inTT 1208 (by decide +kernel) rfl, inTT 89 (by decide +kernel) rfl, by decide +kernel, by decide, plainFor_of_name (by decide +kernel), rfl⟩
theorem mX11_clock_v : MV mX11_clock := ⟨inTT 1206 (by decide +kernel) rfl, inTT 1207 (by decide +kernel) rfl, by decide⟩
theorem mX11_compared_ok : MOk mX11_compared 0 := ⟨inTT 1375 (by decide +kernel) rfl, inTT 89 (by decide +kernel) rfl, by decide +kernel, by decide, plainFor_of_name (by decide +kernel), rfl⟩
theorem mX11_compared_v : MV mX11_compared := ⟨inTT 1374 (by decide +kernel) rfl, inTT 58 (by decide +kernel) rfl, by decide⟩
theorem mX11_cost_ok : MOk mX11_cost 2 := ⟨inTT 1515 (by decide +kernel) rfl, inTT 89 (by decide +kernel) rfl, by decide +kernel, by decide, plainFor_of_name (by decide +kernel), rfl⟩
theorem mX11_cost_v : MV mX11_cost := ⟨inTT 1513 (by decide +kernel) rfl, inTT 1514 (by decide +kernel) rfl, by decide⟩
theorem mX11_count_ok : MOk mX11_count 1 := ⟨inTT 1593 (by decide +kernel) rfl, inTT 89 (by decide +kernel) rfl, by decide +kernel, by decide, plainFor_of_name (by decide +kernel), rfl⟩
theorem mX11_count_v : MV mX11_count := ⟨inTT 1591 (by decide +kernel) rfl, inTT 1592 (by decide +kernel) rfl, by decide⟩
theorem mX11_deeds_ok : MOk mX11_deeds 2 := ⟨inTT 1532 (by decide +kernel) rfl, inTT 89 (by decide +kernel) rfl, by decide +kernel, by decide, plainFor_of_name (by decide +kernel), rfl⟩
theorem mX11_deeds_v : MV mX11_deeds := ⟨inTT 1530 (by decide +kernel) rfl, inTT 1531 (by decide +kernel) rfl, by decide⟩
theorem mX11_differ_ok : MOk mX11_differ 6 := ⟨inTT 1454 (by decide +kernel) rfl, inTT 89 (by decide +kernel) rfl, by decide +kernel, by decide, plainFor_of_name (by decide +kernel), rfl⟩
theorem mX11_differ_v : MV mX11_differ := ⟨inTT 1452 (by decide +kernel) rfl, inTT 1453 (by decide +kernel) rfl, by decide⟩
theorem mX11_differs_ok : MOk mX11_differs 5 := ⟨inTT 1464 (by decide +kernel) rfl, inTT 89 (by decide +kernel) rfl, by decide +kernel, by decide, plainFor_of_name (by decide +kernel), rfl⟩
theorem mX11_differs_v : MV mX11_differs := ⟨inTT 1463 (by decide +kernel) rfl, inTT 70 (by decide +kernel) rfl, by decide⟩
theorem mX11_digits_ok : MOk mX11_digits 1 := ⟨inTT 1334 (by decide +kernel) rfl, inTT 89 (by decide +kernel) rfl, by decide +kernel, by decide, plainFor_of_name (by decide +kernel), rfl⟩
theorem mX11_digits_v : MV mX11_digits := ⟨inTT 1333 (by decide +kernel) rfl, inTT 51 (by decide +kernel) rfl, by decide⟩
theorem mX11_divisor_ok : MOk mX11_divisor 2 := ⟨inTT 1475 (by decide +kernel) rfl, inTT 89 (by decide +kernel) rfl, by decide +kernel, by decide, plainFor_of_name (by decide +kernel), rfl⟩
theorem mX11_divisor_s : MS mX11_divisor := inTT 1474 (by decide +kernel) rfl
theorem mX11_draws_ok : MOk mX11_draws 3 := ⟨inTT 1555 (by decide +kernel) rfl, inTT 89 (by decide +kernel) rfl, by decide +kernel, by decide, plainFor_of_name (by decide +kernel), rfl⟩
theorem mX11_draws_v : MV mX11_draws := ⟨inTT 1554 (by decide +kernel) rfl, inTT 75 (by decide +kernel) rfl, by decide⟩
theorem mX11_edge_ok : MOk mX11_edge 1 := ⟨inTT 1511 (by decide +kernel) rfl, inTT 89 (by decide +kernel) rfl, by decide +kernel, by decide, plainFor_of_name (by decide +kernel), rfl⟩
theorem mX11_edge_v : MV mX11_edge := ⟨inTT 1509 (by decide +kernel) rfl, inTT 1510 (by decide +kernel) rfl, by decide⟩
theorem mX11_end_ok : MOk mX11_end 1 := ⟨inTT 1282 (by decide +kernel) rfl, inTT 89 (by decide +kernel) rfl, by decide +kernel, by decide, plainFor_of_name (by decide +kernel), rfl⟩
theorem mX11_end_v : MV mX11_end := ⟨inTT 1280 (by decide +kernel) rfl, inTT 1281 (by decide +kernel) rfl, by decide⟩
theorem mX11_entry_ok : MOk mX11_entry 2 := ⟨inTT 1342 (by decide +kernel) rfl, inTT 89 (by decide +kernel) rfl, by decide +kernel, by decide, plainFor_of_name (by decide +kernel), rfl⟩
theorem mX11_entry_v : MV mX11_entry := ⟨inTT 1341 (by decide +kernel) rfl, inTT 53 (by decide +kernel) rfl, by decide⟩
theorem mX11_fact_ok : MOk mX11_fact 0 := ⟨inTT 1366 (by decide +kernel) rfl, inTT 89 (by decide +kernel) rfl, by decide +kernel, by decide, plainFor_of_name (by decide +kernel), rfl⟩
theorem mX11_fact_v : MV mX11_fact := ⟨inTT 1365 (by decide +kernel) rfl, inTT 56 (by decide +kernel) rfl, by decide⟩
theorem mX11_fails_ok : MOk mX11_fails 2 := ⟨inTT 1311 (by decide +kernel) rfl, inTT 89 (by decide +kernel) rfl, by decide +kernel, by decide, plainFor_of_name (by decide +kernel), rfl⟩
theorem mX11_fails_v : MV mX11_fails := ⟨inTT 1310 (by decide +kernel) rfl, inTT 46 (by decide +kernel) rfl, by decide⟩
theorem mX11_feed_ok : MOk mX11_feed 5 := ⟨inTT 1274 (by decide +kernel) rfl, inTT 89 (by decide +kernel) rfl, by decide +kernel, by decide, plainFor_of_name (by decide +kernel), rfl⟩
theorem mX11_feed_v : MV mX11_feed := ⟨inTT 1272 (by decide +kernel) rfl, inTT 1273 (by decide +kernel) rfl, by decide⟩
theorem mX11_film_ok : MOk mX11_film 3 := ⟨inTT 1270 (by decide +kernel) rfl, inTT 89 (by decide +kernel) rfl, by decide +kernel, by decide, plainFor_of_name (by decide +kernel), rfl⟩
theorem mX11_film_v : MV mX11_film := ⟨inTT 1268 (by decide +kernel) rfl, inTT 1269 (by decide +kernel) rfl, by decide⟩
theorem mX11_floorOf_ok : MOk mX11_floorOf 2 := ⟨inTT 1482 (by decide +kernel) rfl, inTT 89 (by decide +kernel) rfl, by decide +kernel, by decide, plainFor_of_name (by decide +kernel), rfl⟩
theorem mX11_floorOf_s : MS mX11_floorOf := inTT 1481 (by decide +kernel) rfl
theorem mX11_goesFrom_ok : MOk mX11_goesFrom 2 := ⟨inTT 1433 (by decide +kernel) rfl, inTT 89 (by decide +kernel) rfl, by decide +kernel, by decide, plainFor_of_name (by decide +kernel), rfl⟩
theorem mX11_goesFrom_v : MV mX11_goesFrom := ⟨inTT 1432 (by decide +kernel) rfl, inTT 68 (by decide +kernel) rfl, by decide⟩
theorem mX11_guards_ok : MOk mX11_guards 1 := ⟨inTT 1405 (by decide +kernel) rfl, inTT 89 (by decide +kernel) rfl, by decide +kernel, by decide, plainFor_of_name (by decide +kernel), rfl⟩
theorem mX11_guards_v : MV mX11_guards := ⟨inTT 1404 (by decide +kernel) rfl, inTT 63 (by decide +kernel) rfl, by decide⟩
theorem mX11_houses_ok : MOk mX11_houses 0 := ⟨inTT 1245 (by decide +kernel) rfl, inTT 89 (by decide +kernel) rfl, by decide +kernel, by decide, plainFor_of_name (by decide +kernel), rfl⟩
theorem mX11_houses_v : MV mX11_houses := ⟨inTT 1244 (by decide +kernel) rfl, inTT 39 (by decide +kernel) rfl, by decide⟩
theorem mX11_image_ok : MOk mX11_image 1 := ⟨inTT 1577 (by decide +kernel) rfl, inTT 89 (by decide +kernel) rfl, by decide +kernel, by decide, plainFor_of_name (by decide +kernel), rfl⟩
theorem mX11_image_v : MV mX11_image := ⟨inTT 1575 (by decide +kernel) rfl, inTT 1576 (by decide +kernel) rfl, by decide⟩
theorem mX11_in_ok : MOk mX11_in 3 := ⟨inTT 1212 (by decide +kernel) rfl, inTT 89 (by decide +kernel) rfl, by decide +kernel, by decide, plainFor_of_name (by decide +kernel), rfl⟩
theorem mX11_in_s : MS mX11_in := inTT 1211 (by decide +kernel) rfl
theorem mX11_isAround_ok : MOk mX11_isAround 2 := ⟨inTT 1467 (by decide +kernel) rfl, inTT 89 (by decide +kernel) rfl, by decide +kernel, by decide, plainFor_of_name (by decide +kernel), rfl⟩
theorem mX11_isAround_s : MS mX11_isAround := inTT 1466 (by decide +kernel) rfl
theorem mX11_isCounted_ok : MOk mX11_isCounted 1 := ⟨inTT 1338 (by decide +kernel) rfl, inTT 89 (by decide +kernel) rfl, by decide +kernel, by decide, plainFor_of_name (by decide +kernel), rfl⟩
theorem mX11_isCounted_v : MV mX11_isCounted := ⟨inTT 1337 (by decide +kernel) rfl, inTT 52 (by decide +kernel) rfl, by decide⟩
theorem mX11_isDeed_ok : MOk mX11_isDeed 1 := ⟨inTT 1261 (by decide +kernel) rfl, inTT 89 (by decide +kernel) rfl, by decide +kernel, by decide, plainFor_of_name (by decide +kernel), rfl⟩
theorem mX11_isDeed_s : MS mX11_isDeed := inTT 1260 (by decide +kernel) rfl
theorem mX11_isDigit_ok : MOk mX11_isDigit 0 := ⟨inTT 1327 (by decide +kernel) rfl, inTT 89 (by decide +kernel) rfl, by decide +kernel, by decide, plainFor_of_name (by decide +kernel), rfl⟩
theorem mX11_isDigit_v : MV mX11_isDigit := ⟨inTT 1326 (by decide +kernel) rfl, inTT 50 (by decide +kernel) rfl, by decide⟩
theorem mX11_isLaw_ok : MOk mX11_isLaw 1 := ⟨inTT 1393 (by decide +kernel) rfl, inTT 89 (by decide +kernel) rfl, by decide +kernel, by decide, plainFor_of_name (by decide +kernel), rfl⟩
theorem mX11_isLaw_v : MV mX11_isLaw := ⟨inTT 1392 (by decide +kernel) rfl, inTT 61 (by decide +kernel) rfl, by decide⟩
theorem mX11_isRing_ok : MOk mX11_isRing 1 := ⟨inTT 1443 (by decide +kernel) rfl, inTT 89 (by decide +kernel) rfl, by decide +kernel, by decide, plainFor_of_name (by decide +kernel), rfl⟩
theorem mX11_isRing_s : MS mX11_isRing := inTT 1442 (by decide +kernel) rfl
theorem mX11_isRow_ok : MOk mX11_isRow 2 := ⟨inTT 1446 (by decide +kernel) rfl, inTT 89 (by decide +kernel) rfl, by decide +kernel, by decide, plainFor_of_name (by decide +kernel), rfl⟩
theorem mX11_isRow_s : MS mX11_isRow := inTT 1445 (by decide +kernel) rfl
theorem mX11_isSpan_ok : MOk mX11_isSpan 1 := ⟨inTT 1457 (by decide +kernel) rfl, inTT 89 (by decide +kernel) rfl, by decide +kernel, by decide, plainFor_of_name (by decide +kernel), rfl⟩
theorem mX11_isSpan_s : MS mX11_isSpan := inTT 1456 (by decide +kernel) rfl
theorem mX11_isStreet_ok : MOk mX11_isStreet 1 := ⟨inTT 1225 (by decide +kernel) rfl, inTT 89 (by decide +kernel) rfl, by decide +kernel, by decide, plainFor_of_name (by decide +kernel), rfl⟩
theorem mX11_isStreet_v : MV mX11_isStreet := ⟨inTT 1224 (by decide +kernel) rfl, inTT 35 (by decide +kernel) rfl, by decide⟩
theorem mX11_isWeek_ok : MOk mX11_isWeek 1 := ⟨inTT 1396 (by decide +kernel) rfl, inTT 89 (by decide +kernel) rfl, by decide +kernel, by decide, plainFor_of_name (by decide +kernel), rfl⟩
theorem mX11_isWeek_s : MS mX11_isWeek := inTT 1395 (by decide +kernel) rfl
theorem mX11_law_ok : MOk mX11_law 0 := ⟨inTT 1286 (by decide +kernel) rfl, inTT 89 (by decide +kernel) rfl, by decide +kernel, by decide, plainFor_of_name (by decide +kernel), rfl⟩
theorem mX11_law_v : MV mX11_law := ⟨inTT 1284 (by decide +kernel) rfl, inTT 1285 (by decide +kernel) rfl, by decide⟩
theorem mX11_like_ok : MOk mX11_like 1 := ⟨inTT 1525 (by decide +kernel) rfl, inTT 89 (by decide +kernel) rfl, by decide +kernel, by decide, plainFor_of_name (by decide +kernel), rfl⟩
theorem mX11_like_v : MV mX11_like := ⟨inTT 1523 (by decide +kernel) rfl, inTT 1524 (by decide +kernel) rfl, by decide⟩
theorem mX11_looks_ok : MOk mX11_looks 4 := ⟨inTT 1413 (by decide +kernel) rfl, inTT 89 (by decide +kernel) rfl, by decide +kernel, by decide, plainFor_of_name (by decide +kernel), rfl⟩
theorem mX11_looks_v : MV mX11_looks := ⟨inTT 1412 (by decide +kernel) rfl, inTT 65 (by decide +kernel) rfl, by decide⟩
theorem mX11_miss_ok : MOk mX11_miss 3 := ⟨inTT 1537 (by decide +kernel) rfl, inTT 89 (by decide +kernel) rfl, by decide +kernel, by decide, plainFor_of_name (by decide +kernel), rfl⟩
theorem mX11_miss_v : MV mX11_miss := ⟨inTT 1535 (by decide +kernel) rfl, inTT 1536 (by decide +kernel) rfl, by decide⟩
theorem mX11_missOf_ok : MOk mX11_missOf 3 := ⟨inTT 1541 (by decide +kernel) rfl, inTT 89 (by decide +kernel) rfl, by decide +kernel, by decide, plainFor_of_name (by decide +kernel), rfl⟩
theorem mX11_missOf_v : MV mX11_missOf := ⟨inTT 1540 (by decide +kernel) rfl, inTT 74 (by decide +kernel) rfl, by decide⟩
theorem mX11_off_ok : MOk mX11_off 2 := ⟨inTT 1490 (by decide +kernel) rfl, inTT 89 (by decide +kernel) rfl, by decide +kernel, by decide, plainFor_of_name (by decide +kernel), rfl⟩
theorem mX11_off_v : MV mX11_off := ⟨inTT 1488 (by decide +kernel) rfl, inTT 1489 (by decide +kernel) rfl, by decide⟩
theorem mX11_offOf_ok : MOk mX11_offOf 2 := ⟨inTT 1494 (by decide +kernel) rfl, inTT 89 (by decide +kernel) rfl, by decide +kernel, by decide, plainFor_of_name (by decide +kernel), rfl⟩
theorem mX11_offOf_v : MV mX11_offOf := ⟨inTT 1493 (by decide +kernel) rfl, inTT 73 (by decide +kernel) rfl, by decide⟩
theorem mX11_opens_ok : MOk mX11_opens 1 := ⟨inTT 1371 (by decide +kernel) rfl, inTT 89 (by decide +kernel) rfl, by decide +kernel, by decide, plainFor_of_name (by decide +kernel), rfl⟩
theorem mX11_opens_v : MV mX11_opens := ⟨inTT 1370 (by decide +kernel) rfl, inTT 57 (by decide +kernel) rfl, by decide⟩
theorem mX11_parted_ok : MOk mX11_parted 4 := ⟨inTT 1573 (by decide +kernel) rfl, inTT 89 (by decide +kernel) rfl, by decide +kernel, by decide, plainFor_of_name (by decide +kernel), rfl⟩
theorem mX11_parted_v : MV mX11_parted := ⟨inTT 1572 (by decide +kernel) rfl, inTT 76 (by decide +kernel) rfl, by decide⟩
theorem mX11_plan_ok : MOk mX11_plan 4 := ⟨inTT 1568 (by decide +kernel) rfl, inTT 89 (by decide +kernel) rfl, by decide +kernel, by decide, plainFor_of_name (by decide +kernel), rfl⟩
theorem mX11_plan_v : MV mX11_plan := ⟨inTT 1566 (by decide +kernel) rfl, inTT 1567 (by decide +kernel) rfl, by decide⟩
theorem mX11_put_ok : MOk mX11_put 1 := ⟨inTT 1278 (by decide +kernel) rfl, inTT 89 (by decide +kernel) rfl, by decide +kernel, by decide, plainFor_of_name (by decide +kernel), rfl⟩
theorem mX11_put_v : MV mX11_put := ⟨inTT 1277 (by decide +kernel) rfl, inTT 41 (by decide +kernel) rfl, by decide⟩
theorem mX11_ring_ok : MOk mX11_ring 1 := ⟨inTT 1233 (by decide +kernel) rfl, inTT 89 (by decide +kernel) rfl, by decide +kernel, by decide, plainFor_of_name (by decide +kernel), rfl⟩
theorem mX11_ring_v : MV mX11_ring := ⟨inTT 1231 (by decide +kernel) rfl, inTT 1232 (by decide +kernel) rfl, by decide⟩
theorem mX11_ringOf_ok : MOk mX11_ringOf 1 := ⟨inTT 1237 (by decide +kernel) rfl, inTT 89 (by decide +kernel) rfl, by decide +kernel, by decide, plainFor_of_name (by decide +kernel), rfl⟩
theorem mX11_ringOf_v : MV mX11_ringOf := ⟨inTT 1236 (by decide +kernel) rfl, inTT 37 (by decide +kernel) rfl, by decide⟩
theorem mX11_ringSet_ok : MOk mX11_ringSet 1 := ⟨inTT 1241 (by decide +kernel) rfl, inTT 89 (by decide +kernel) rfl, by decide +kernel, by decide, plainFor_of_name (by decide +kernel), rfl⟩
theorem mX11_ringSet_v : MV mX11_ringSet := ⟨inTT 1240 (by decide +kernel) rfl, inTT 38 (by decide +kernel) rfl, by decide⟩
theorem mX11_ringsOfAll_ok : MOk mX11_ringsOfAll 0 := ⟨inTT 1401 (by decide +kernel) rfl, inTT 89 (by decide +kernel) rfl, by decide +kernel, by decide, plainFor_of_name (by decide +kernel), rfl⟩
theorem mX11_ringsOfAll_v : MV mX11_ringsOfAll := ⟨inTT 1400 (by decide +kernel) rfl, inTT 62 (by decide +kernel) rfl, by decide⟩
theorem mX11_run_ok : MOk mX11_run 5 := ⟨inTT 1551 (by decide +kernel) rfl, inTT 89 (by decide +kernel) rfl, by decide +kernel, by decide, plainFor_of_name (by decide +kernel), rfl⟩
theorem mX11_run_v : MV mX11_run := ⟨inTT 1549 (by decide +kernel) rfl, inTT 1550 (by decide +kernel) rfl, by decide⟩
theorem mX11_share_ok : MOk mX11_share 5 := ⟨inTT 1440 (by decide +kernel) rfl, inTT 89 (by decide +kernel) rfl, by decide +kernel, by decide, plainFor_of_name (by decide +kernel), rfl⟩
theorem mX11_share_v : MV mX11_share := ⟨inTT 1438 (by decide +kernel) rfl, inTT 1439 (by decide +kernel) rfl, by decide⟩
theorem mX11_shares_ok : MOk mX11_shares 4 := ⟨inTT 1450 (by decide +kernel) rfl, inTT 89 (by decide +kernel) rfl, by decide +kernel, by decide, plainFor_of_name (by decide +kernel), rfl⟩
theorem mX11_shares_v : MV mX11_shares := ⟨inTT 1449 (by decide +kernel) rfl, inTT 69 (by decide +kernel) rfl, by decide⟩
theorem mX11_sign_ok : MOk mX11_sign 0 := ⟨inTT 1298 (by decide +kernel) rfl, inTT 89 (by decide +kernel) rfl, by decide +kernel, by decide, plainFor_of_name (by decide +kernel), rfl⟩
theorem mX11_sign_v : MV mX11_sign := ⟨inTT 1297 (by decide +kernel) rfl, inTT 44 (by decide +kernel) rfl, by decide⟩
theorem mX11_stands_ok : MOk mX11_stands 1 := ⟨inTT 1303 (by decide +kernel) rfl, inTT 89 (by decide +kernel) rfl, by decide +kernel, by decide, plainFor_of_name (by decide +kernel), rfl⟩
theorem mX11_stands_v : MV mX11_stands := ⟨inTT 1302 (by decide +kernel) rfl, inTT 45 (by decide +kernel) rfl, by decide⟩
theorem mX11_start_ok : MOk mX11_start 1 := ⟨inTT 1253 (by decide +kernel) rfl, inTT 89 (by decide +kernel) rfl, by decide +kernel, by decide, plainFor_of_name (by decide +kernel), rfl⟩
theorem mX11_start_v : MV mX11_start := ⟨inTT 1251 (by decide +kernel) rfl, inTT 1252 (by decide +kernel) rfl, by decide⟩
theorem mX11_street_ok : MOk mX11_street 3 := ⟨inTT 1216 (by decide +kernel) rfl, inTT 89 (by decide +kernel) rfl, by decide +kernel, by decide, plainFor_of_name (by decide +kernel), rfl⟩
theorem mX11_street_v : MV mX11_street := ⟨inTT 1214 (by decide +kernel) rfl, inTT 1215 (by decide +kernel) rfl, by decide⟩
theorem mX11_sum_ok : MOk mX11_sum 0 := ⟨inTT 1315 (by decide +kernel) rfl, inTT 89 (by decide +kernel) rfl, by decide +kernel, by decide, plainFor_of_name (by decide +kernel), rfl⟩
theorem mX11_sum_v : MV mX11_sum := ⟨inTT 1314 (by decide +kernel) rfl, inTT 47 (by decide +kernel) rfl, by decide⟩
theorem mX11_takes_ok : MOk mX11_takes 1 := ⟨inTT 1358 (by decide +kernel) rfl, inTT 89 (by decide +kernel) rfl, by decide +kernel, by decide, plainFor_of_name (by decide +kernel), rfl⟩
theorem mX11_takes_v : MV mX11_takes := ⟨inTT 1357 (by decide +kernel) rfl, inTT 54 (by decide +kernel) rfl, by decide⟩
theorem mX11_tellsOf_ok : MOk mX11_tellsOf 4 := ⟨inTT 1418 (by decide +kernel) rfl, inTT 89 (by decide +kernel) rfl, by decide +kernel, by decide, plainFor_of_name (by decide +kernel), rfl⟩
theorem mX11_tellsOf_v : MV mX11_tellsOf := ⟨inTT 1417 (by decide +kernel) rfl, inTT 66 (by decide +kernel) rfl, by decide⟩
theorem mX11_term_ok : MOk mX11_term 0 := ⟨inTT 1319 (by decide +kernel) rfl, inTT 89 (by decide +kernel) rfl, by decide +kernel, by decide, plainFor_of_name (by decide +kernel), rfl⟩
theorem mX11_term_v : MV mX11_term := ⟨inTT 1318 (by decide +kernel) rfl, inTT 48 (by decide +kernel) rfl, by decide⟩
theorem mX11_test_ok : MOk mX11_test 0 := ⟨inTT 1362 (by decide +kernel) rfl, inTT 89 (by decide +kernel) rfl, by decide +kernel, by decide, plainFor_of_name (by decide +kernel), rfl⟩
theorem mX11_test_v : MV mX11_test := ⟨inTT 1361 (by decide +kernel) rfl, inTT 55 (by decide +kernel) rfl, by decide⟩
theorem mX11_thin_ok : MOk mX11_thin 2 := ⟨inTT 1498 (by decide +kernel) rfl, inTT 89 (by decide +kernel) rfl, by decide +kernel, by decide, plainFor_of_name (by decide +kernel), rfl⟩
theorem mX11_thin_v : MV mX11_thin := ⟨inTT 1496 (by decide +kernel) rfl, inTT 1497 (by decide +kernel) rfl, by decide⟩
theorem mX11_thousandths_ok : MOk mX11_thousandths 0 := ⟨inTT 1479 (by decide +kernel) rfl, inTT 89 (by decide +kernel) rfl, by decide +kernel, by decide, plainFor_of_name (by decide +kernel), rfl⟩
theorem mX11_thousandths_v : MV mX11_thousandths := ⟨inTT 1478 (by decide +kernel) rfl, inTT 72 (by decide +kernel) rfl, by decide⟩
theorem mX11_top_ok : MOk mX11_top 0 := ⟨inTT 1383 (by decide +kernel) rfl, inTT 89 (by decide +kernel) rfl, by decide +kernel, by decide, plainFor_of_name (by decide +kernel), rfl⟩
theorem mX11_top_v : MV mX11_top := ⟨inTT 1382 (by decide +kernel) rfl, inTT 60 (by decide +kernel) rfl, by decide⟩
theorem mX11_towns_ok : MOk mX11_towns 4 := ⟨inTT 1563 (by decide +kernel) rfl, inTT 89 (by decide +kernel) rfl, by decide +kernel, by decide, plainFor_of_name (by decide +kernel), rfl⟩
theorem mX11_towns_v : MV mX11_towns := ⟨inTT 1561 (by decide +kernel) rfl, inTT 1562 (by decide +kernel) rfl, by decide⟩
theorem mX11_truth_ok : MOk mX11_truth 1 := ⟨inTT 1428 (by decide +kernel) rfl, inTT 89 (by decide +kernel) rfl, by decide +kernel, by decide, plainFor_of_name (by decide +kernel), rfl⟩
theorem mX11_truth_s : MS mX11_truth := inTT 1427 (by decide +kernel) rfl
theorem mX11_upwards_ok : MOk mX11_upwards 2 := ⟨inTT 1501 (by decide +kernel) rfl, inTT 89 (by decide +kernel) rfl, by decide +kernel, by decide, plainFor_of_name (by decide +kernel), rfl⟩
theorem mX11_upwards_s : MS mX11_upwards := inTT 1500 (by decide +kernel) rfl
theorem mX11_value_ok : MOk mX11_value 0 := ⟨inTT 1323 (by decide +kernel) rfl, inTT 89 (by decide +kernel) rfl, by decide +kernel, by decide, plainFor_of_name (by decide +kernel), rfl⟩
theorem mX11_value_v : MV mX11_value := ⟨inTT 1322 (by decide +kernel) rfl, inTT 49 (by decide +kernel) rfl, by decide⟩
theorem mX11_where_ok : MOk mX11_where 2 := ⟨inTT 1520 (by decide +kernel) rfl, inTT 89 (by decide +kernel) rfl, by decide +kernel, by decide, plainFor_of_name (by decide +kernel), rfl⟩
theorem mX11_where_v : MV mX11_where := ⟨inTT 1518 (by decide +kernel) rfl, inTT 1519 (by decide +kernel) rfl, by decide⟩
theorem mX11_wordOf_ok : MOk mX11_wordOf 1 := ⟨inTT 1345 (by decide +kernel) rfl, inTT 89 (by decide +kernel) rfl, by decide +kernel, by decide, plainFor_of_name (by decide +kernel), rfl⟩
theorem mX11_wordOf_s : MS mX11_wordOf := inTT 1344 (by decide +kernel) rfl
theorem mX11_works_ok : MOk mX11_works 3 := ⟨inTT 1409 (by decide +kernel) rfl, inTT 89 (by decide +kernel) rfl, by decide +kernel, by decide, plainFor_of_name (by decide +kernel), rfl⟩
theorem mX11_works_v : MV mX11_works := ⟨inTT 1408 (by decide +kernel) rfl, inTT 64 (by decide +kernel) rfl, by decide⟩
theorem mJ6_bitCount_0f7a4_ok : MOk mJ6_bitCount_0f7a4 1 := ⟨inTT 764 (by decide +kernel) rfl, inTT 99 (by decide +kernel) rfl, by decide +kernel, by decide, plainFor_of_name (by decide +kernel), rfl⟩
theorem mJ6_bitCount_0f7a4_s : MS mJ6_bitCount_0f7a4 := inTT 763 (by decide +kernel) rfl
theorem mJ9_abs_0f7a4_ok : MOk mJ9_abs_0f7a4 1 := ⟨inTT 923 (by decide +kernel) rfl, inTT 96 (by decide +kernel) rfl, by decide +kernel, by decide, by decide +kernel, rfl⟩
theorem mJ9_abs_0f7a4_s : MS mJ9_abs_0f7a4 := inTT 922 (by decide +kernel) rfl
theorem mJ9_abs_067f4_ok : MOk mJ9_abs_067f4 1 := ⟨inTT 846 (by decide +kernel) rfl, inTT 96 (by decide +kernel) rfl, by decide +kernel, by decide, by decide +kernel, rfl⟩
theorem mJ9_abs_067f4_s : MS mJ9_abs_067f4 := inTT 845 (by decide +kernel) rfl
theorem mJ9_floorDiv_f86c9_ok : MOk mJ9_floorDiv_f86c9 2 := ⟨inTT 835 (by decide +kernel) rfl, inTT 96 (by decide +kernel) rfl, by decide +kernel, by decide, by decide +kernel, rfl⟩
theorem mJ9_floorDiv_f86c9_s : MS mJ9_floorDiv_f86c9 := inTT 834 (by decide +kernel) rfl
theorem mJ9_max_7cf53_ok : MOk mJ9_max_7cf53 2 := ⟨inTT 662 (by decide +kernel) rfl, inTT 96 (by decide +kernel) rfl, by decide +kernel, by decide, by decide +kernel, rfl⟩
theorem mJ9_max_7cf53_s : MS mJ9_max_7cf53 := inTT 661 (by decide +kernel) rfl
theorem mJ9_max_f86c9_ok : MOk mJ9_max_f86c9 2 := ⟨inTT 751 (by decide +kernel) rfl, inTT 96 (by decide +kernel) rfl, by decide +kernel, by decide, by decide +kernel, rfl⟩
theorem mJ9_max_f86c9_s : MS mJ9_max_f86c9 := inTT 750 (by decide +kernel) rfl
theorem mJ9_min_7cf53_ok : MOk mJ9_min_7cf53 2 := ⟨inTT 675 (by decide +kernel) rfl, inTT 96 (by decide +kernel) rfl, by decide +kernel, by decide, by decide +kernel, rfl⟩
theorem mJ9_min_7cf53_s : MS mJ9_min_7cf53 := inTT 674 (by decide +kernel) rfl
theorem mJ9_min_f86c9_ok : MOk mJ9_min_f86c9 2 := ⟨inTT 748 (by decide +kernel) rfl, inTT 96 (by decide +kernel) rfl, by decide +kernel, by decide, by decide +kernel, rfl⟩
theorem mJ9_min_f86c9_s : MS mJ9_min_f86c9 := inTT 747 (by decide +kernel) rfl
theorem mJ7_copyOf_59c91_ok : MOk mJ7_copyOf_59c91 2 := ⟨inTT 665 (by decide +kernel) rfl, inTT 91 (by decide +kernel) rfl, by decide +kernel, by decide, plainFor_of_name (by decide +kernel), rfl⟩
theorem mJ7_copyOf_59c91_s : MS mJ7_copyOf_59c91 := inTT 664 (by decide +kernel) rfl
theorem mJ7_fill_031fb_ok : MOk mJ7_fill_031fb 2 := ⟨inTT 413 (by decide +kernel) rfl, inTT 91 (by decide +kernel) rfl, by decide +kernel, by decide, plainFor_of_name (by decide +kernel), rfl⟩
theorem mJ7_fill_031fb_s : MS mJ7_fill_031fb := inTT 412 (by decide +kernel) rfl
theorem mJ7_fill_d0a16_ok : MOk mJ7_fill_d0a16 2 := ⟨inTT 991 (by decide +kernel) rfl, inTT 91 (by decide +kernel) rfl, by decide +kernel, by decide, plainFor_of_name (by decide +kernel), rfl⟩
theorem mJ7_fill_d0a16_s : MS mJ7_fill_d0a16 := inTT 990 (by decide +kernel) rfl
theorem mJ7_fill_fb410_ok : MOk mJ7_fill_fb410 2 := ⟨inTT 416 (by decide +kernel) rfl, inTT 91 (by decide +kernel) rfl, by decide +kernel, by decide, plainFor_of_name (by decide +kernel), rfl⟩
theorem mJ7_fill_fb410_s : MS mJ7_fill_fb410 := inTT 415 (by decide +kernel) rfl
theorem tF_0 : ∀ q ∈ pF 0, okF 0 q := by
  show ∀ q ∈ [(9, 0, 0), (15, 0, 1), (19, 0, 2), (45, 9, 2)], _
  exact List.forall_mem_cons.mpr ⟨⟨by decide, by decide, inTT 304 (by decide +kernel) rfl, rfl⟩, List.forall_mem_cons.mpr ⟨⟨by decide, by decide, inTT 305 (by decide +kernel) rfl, rfl⟩, List.forall_mem_cons.mpr ⟨⟨by decide, by decide, inTT 306 (by decide +kernel) rfl, rfl⟩, List.forall_mem_cons.mpr ⟨⟨by decide, by decide, inTT 124 (by decide +kernel) rfl, rfl⟩, fun _ h => absurd h List.not_mem_nil⟩⟩⟩⟩
theorem tF_1 : ∀ q ∈ pF 1, okF 1 q := by
  show ∀ q ∈ [(12, 1, 0), (18, 1, 1), (22, 1, 2), (25, 1, 3), (28, 1, 4), (31, 1, 5), (34, 1, 6), (43, 9, 2)], _
  exact List.forall_mem_cons.mpr ⟨⟨by decide, by decide, inTT 276 (by decide +kernel) rfl, rfl⟩, List.forall_mem_cons.mpr ⟨⟨by decide, by decide, inTT 277 (by decide +kernel) rfl, rfl⟩, List.forall_mem_cons.mpr ⟨⟨by decide, by decide, inTT 278 (by decide +kernel) rfl, rfl⟩, List.forall_mem_cons.mpr ⟨⟨by decide, by decide, inTT 279 (by decide +kernel) rfl, rfl⟩, List.forall_mem_cons.mpr ⟨⟨by decide, by decide, inTT 280 (by decide +kernel) rfl, rfl⟩, List.forall_mem_cons.mpr ⟨⟨by decide, by decide, inTT 281 (by decide +kernel) rfl, rfl⟩, List.forall_mem_cons.mpr ⟨⟨by decide, by decide, inTT 282 (by decide +kernel) rfl, rfl⟩, List.forall_mem_cons.mpr ⟨⟨by decide, by decide, inTT 122 (by decide +kernel) rfl, rfl⟩, fun _ h => absurd h List.not_mem_nil⟩⟩⟩⟩⟩⟩⟩⟩
theorem tF_2 : ∀ q ∈ pF 2, okF 2 q := by
  show ∀ q ∈ [(9, 2, 0), (15, 2, 1)], _
  exact List.forall_mem_cons.mpr ⟨⟨by decide, by decide, inTT 236 (by decide +kernel) rfl, rfl⟩, List.forall_mem_cons.mpr ⟨⟨by decide, by decide, inTT 237 (by decide +kernel) rfl, rfl⟩, fun _ h => absurd h List.not_mem_nil⟩⟩
theorem tF_3 : ∀ q ∈ pF 3, okF 3 q := by
  show ∀ q ∈ [(7, 3, 0), (13, 3, 1)], _
  exact List.forall_mem_cons.mpr ⟨⟨by decide, by decide, inTT 685 (by decide +kernel) rfl, rfl⟩, List.forall_mem_cons.mpr ⟨⟨by decide, by decide, inTT 687 (by decide +kernel) rfl, rfl⟩, fun _ h => absurd h List.not_mem_nil⟩⟩
theorem tF_4 : ∀ q ∈ pF 4, okF 4 q := by
  show ∀ q ∈ [(12, 4, 0), (18, 4, 1), (22, 4, 2), (25, 4, 3), (28, 4, 4), (31, 4, 5), (34, 4, 6), (37, 4, 7), (41, 4, 8), (44, 4, 9), (47, 4, 10), (81, 7, 3), (84, 7, 0), (87, 7, 1), (90, 7, 2)], _
  exact List.forall_mem_cons.mpr ⟨⟨by decide, by decide, inTT 188 (by decide +kernel) rfl, rfl⟩, List.forall_mem_cons.mpr ⟨⟨by decide, by decide, inTT 189 (by decide +kernel) rfl, rfl⟩, List.forall_mem_cons.mpr ⟨⟨by decide, by decide, inTT 190 (by decide +kernel) rfl, rfl⟩, List.forall_mem_cons.mpr ⟨⟨by decide, by decide, inTT 191 (by decide +kernel) rfl, rfl⟩, List.forall_mem_cons.mpr ⟨⟨by decide, by decide, inTT 192 (by decide +kernel) rfl, rfl⟩, List.forall_mem_cons.mpr ⟨⟨by decide, by decide, inTT 193 (by decide +kernel) rfl, rfl⟩, List.forall_mem_cons.mpr ⟨⟨by decide, by decide, inTT 194 (by decide +kernel) rfl, rfl⟩, List.forall_mem_cons.mpr ⟨⟨by decide, by decide, inTT 195 (by decide +kernel) rfl, rfl⟩, List.forall_mem_cons.mpr ⟨⟨by decide, by decide, inTT 196 (by decide +kernel) rfl, rfl⟩, List.forall_mem_cons.mpr ⟨⟨by decide, by decide, inTT 197 (by decide +kernel) rfl, rfl⟩, List.forall_mem_cons.mpr ⟨⟨by decide, by decide, inTT 198 (by decide +kernel) rfl, rfl⟩, List.forall_mem_cons.mpr ⟨⟨by decide, by decide, inTT 168 (by decide +kernel) rfl, rfl⟩, List.forall_mem_cons.mpr ⟨⟨by decide, by decide, inTT 162 (by decide +kernel) rfl, rfl⟩, List.forall_mem_cons.mpr ⟨⟨by decide, by decide, inTT 164 (by decide +kernel) rfl, rfl⟩, List.forall_mem_cons.mpr ⟨⟨by decide, by decide, inTT 166 (by decide +kernel) rfl, rfl⟩, fun _ h => absurd h List.not_mem_nil⟩⟩⟩⟩⟩⟩⟩⟩⟩⟩⟩⟩⟩⟩⟩
theorem tF_5 : ∀ q ∈ pF 5, okF 5 q := by
  show ∀ q ∈ [(9, 5, 0), (15, 5, 1), (22, 5, 2), (26, 9, 2), (62, 9, 1), (69, 8, 0), (72, 8, 1), (75, 8, 2)], _
  exact List.forall_mem_cons.mpr ⟨⟨by decide, by decide, inTT 244 (by decide +kernel) rfl, rfl⟩, List.forall_mem_cons.mpr ⟨⟨by decide, by decide, inTT 246 (by decide +kernel) rfl, rfl⟩, List.forall_mem_cons.mpr ⟨⟨by decide, by decide, inTT 248 (by decide +kernel) rfl, rfl⟩, List.forall_mem_cons.mpr ⟨⟨by decide, by decide, inTT 123 (by decide +kernel) rfl, rfl⟩, List.forall_mem_cons.mpr ⟨⟨by decide, by decide, inTT 119 (by decide +kernel) rfl, rfl⟩, List.forall_mem_cons.mpr ⟨⟨by decide, by decide, inTT 380 (by decide +kernel) rfl, rfl⟩, List.forall_mem_cons.mpr ⟨⟨by decide, by decide, inTT 383 (by decide +kernel) rfl, rfl⟩, List.forall_mem_cons.mpr ⟨⟨by decide, by decide, inTT 386 (by decide +kernel) rfl, rfl⟩, fun _ h => absurd h List.not_mem_nil⟩⟩⟩⟩⟩⟩⟩⟩
theorem tF_6 : ∀ q ∈ pF 6, okF 6 q := by
  show ∀ q ∈ [(9, 6, 0), (15, 6, 1), (18, 8, 0), (24, 8, 1), (33, 8, 2), (37, 3, 1), (43, 3, 0)], _
  exact List.forall_mem_cons.mpr ⟨⟨by decide, by decide, inTT 269 (by decide +kernel) rfl, rfl⟩, List.forall_mem_cons.mpr ⟨⟨by decide, by decide, inTT 270 (by decide +kernel) rfl, rfl⟩, List.forall_mem_cons.mpr ⟨⟨by decide, by decide, inTT 379 (by decide +kernel) rfl, rfl⟩, List.forall_mem_cons.mpr ⟨⟨by decide, by decide, inTT 382 (by decide +kernel) rfl, rfl⟩, List.forall_mem_cons.mpr ⟨⟨by decide, by decide, inTT 385 (by decide +kernel) rfl, rfl⟩, List.forall_mem_cons.mpr ⟨⟨by decide, by decide, inTT 688 (by decide +kernel) rfl, rfl⟩, List.forall_mem_cons.mpr ⟨⟨by decide, by decide, inTT 686 (by decide +kernel) rfl, rfl⟩, fun _ h => absurd h List.not_mem_nil⟩⟩⟩⟩⟩⟩⟩
theorem tF_7 : ∀ q ∈ pF 7, okF 7 q := by
  show ∀ q ∈ [(9, 7, 0), (15, 7, 1), (18, 7, 2), (21, 7, 3), (25, 7, 4), (29, 7, 5), (32, 7, 6)], _
  exact List.forall_mem_cons.mpr ⟨⟨by decide, by decide, inTT 161 (by decide +kernel) rfl, rfl⟩, List.forall_mem_cons.mpr ⟨⟨by decide, by decide, inTT 163 (by decide +kernel) rfl, rfl⟩, List.forall_mem_cons.mpr ⟨⟨by decide, by decide, inTT 165 (by decide +kernel) rfl, rfl⟩, List.forall_mem_cons.mpr ⟨⟨by decide, by decide, inTT 167 (by decide +kernel) rfl, rfl⟩, List.forall_mem_cons.mpr ⟨⟨by decide, by decide, inTT 169 (by decide +kernel) rfl, rfl⟩, List.forall_mem_cons.mpr ⟨⟨by decide, by decide, inTT 170 (by decide +kernel) rfl, rfl⟩, List.forall_mem_cons.mpr ⟨⟨by decide, by decide, inTT 171 (by decide +kernel) rfl, rfl⟩, fun _ h => absurd h List.not_mem_nil⟩⟩⟩⟩⟩⟩⟩
theorem tF_8 : ∀ q ∈ pF 8, okF 8 q := by
  show ∀ q ∈ [(9, 8, 0), (15, 8, 1), (18, 8, 2), (22, 8, 3), (25, 8, 4), (29, 8, 5)], _
  exact List.forall_mem_cons.mpr ⟨⟨by decide, by decide, inTT 378 (by decide +kernel) rfl, rfl⟩, List.forall_mem_cons.mpr ⟨⟨by decide, by decide, inTT 381 (by decide +kernel) rfl, rfl⟩, List.forall_mem_cons.mpr ⟨⟨by decide, by decide, inTT 384 (by decide +kernel) rfl, rfl⟩, List.forall_mem_cons.mpr ⟨⟨by decide, by decide, inTT 389 (by decide +kernel) rfl, rfl⟩, List.forall_mem_cons.mpr ⟨⟨by decide, by decide, inTT 391 (by decide +kernel) rfl, rfl⟩, List.forall_mem_cons.mpr ⟨⟨by decide, by decide, inTT 392 (by decide +kernel) rfl, rfl⟩, fun _ h => absurd h List.not_mem_nil⟩⟩⟩⟩⟩⟩
theorem tF_9 : ∀ q ∈ pF 9, okF 9 q := by
  show ∀ q ∈ [(9, 9, 0), (15, 9, 1), (18, 9, 2), (21, 9, 3), (24, 9, 4), (29, 9, 5), (33, 9, 6), (56, 8, 3), (68, 8, 2)], _
  exact List.forall_mem_cons.mpr ⟨⟨by decide, by decide, inTT 116 (by decide +kernel) rfl, rfl⟩, List.forall_mem_cons.mpr ⟨⟨by decide, by decide, inTT 118 (by decide +kernel) rfl, rfl⟩, List.forall_mem_cons.mpr ⟨⟨by decide, by decide, inTT 121 (by decide +kernel) rfl, rfl⟩, List.forall_mem_cons.mpr ⟨⟨by decide, by decide, inTT 126 (by decide +kernel) rfl, rfl⟩, List.forall_mem_cons.mpr ⟨⟨by decide, by decide, inTT 128 (by decide +kernel) rfl, rfl⟩, List.forall_mem_cons.mpr ⟨⟨by decide, by decide, inTT 130 (by decide +kernel) rfl, rfl⟩, List.forall_mem_cons.mpr ⟨⟨by decide, by decide, inTT 131 (by decide +kernel) rfl, rfl⟩, List.forall_mem_cons.mpr ⟨⟨by decide, by decide, inTT 390 (by decide +kernel) rfl, rfl⟩, List.forall_mem_cons.mpr ⟨⟨by decide, by decide, inTT 387 (by decide +kernel) rfl, rfl⟩, fun _ h => absurd h List.not_mem_nil⟩⟩⟩⟩⟩⟩⟩⟩⟩
theorem tF_10 : ∀ q ∈ pF 10, okF 10 q := by
  show ∀ q ∈ [(10, 10, 0), (16, 10, 1), (20, 10, 2), (24, 10, 3), (31, 10, 4), (37, 10, 5), (41, 10, 6), (44, 10, 7), (51, 10, 8), (58, 10, 9), (62, 10, 10), (68, 10, 11), (76, 9, 0), (95, 9, 1), (115, 9, 3), (128, 9, 4), (169, 5, 0), (173, 5, 1), (188, 5, 2), (230, 8, 2), (234, 9, 2)], _
  exact List.forall_mem_cons.mpr ⟨⟨by decide, by decide, inTT 314 (by decide +kernel) rfl, rfl⟩, List.forall_mem_cons.mpr ⟨⟨by decide, by decide, inTT 315 (by decide +kernel) rfl, rfl⟩, List.forall_mem_cons.mpr ⟨⟨by decide, by decide, inTT 316 (by decide +kernel) rfl, rfl⟩, List.forall_mem_cons.mpr ⟨⟨by decide, by decide, inTT 317 (by decide +kernel) rfl, rfl⟩, List.forall_mem_cons.mpr ⟨⟨by decide, by decide, inTT 318 (by decide +kernel) rfl, rfl⟩, List.forall_mem_cons.mpr ⟨⟨by decide, by decide, inTT 319 (by decide +kernel) rfl, rfl⟩, List.forall_mem_cons.mpr ⟨⟨by decide, by decide, inTT 320 (by decide +kernel) rfl, rfl⟩, List.forall_mem_cons.mpr ⟨⟨by decide, by decide, inTT 321 (by decide +kernel) rfl, rfl⟩, List.forall_mem_cons.mpr ⟨⟨by decide, by decide, inTT 322 (by decide +kernel) rfl, rfl⟩, List.forall_mem_cons.mpr ⟨⟨by decide, by decide, inTT 323 (by decide +kernel) rfl, rfl⟩, List.forall_mem_cons.mpr ⟨⟨by decide, by decide, inTT 324 (by decide +kernel) rfl, rfl⟩, List.forall_mem_cons.mpr ⟨⟨by decide, by decide, inTT 325 (by decide +kernel) rfl, rfl⟩, List.forall_mem_cons.mpr ⟨⟨by decide, by decide, inTT 117 (by decide +kernel) rfl, rfl⟩, List.forall_mem_cons.mpr ⟨⟨by decide, by decide, inTT 120 (by decide +kernel) rfl, rfl⟩, List.forall_mem_cons.mpr ⟨⟨by decide, by decide, inTT 127 (by decide +kernel) rfl, rfl⟩, List.forall_mem_cons.mpr ⟨⟨by decide, by decide, inTT 129 (by decide +kernel) rfl, rfl⟩, List.forall_mem_cons.mpr ⟨⟨by decide, by decide, inTT 245 (by decide +kernel) rfl, rfl⟩, List.forall_mem_cons.mpr ⟨⟨by decide, by decide, inTT 247 (by decide +kernel) rfl, rfl⟩, List.forall_mem_cons.mpr ⟨⟨by decide, by decide, inTT 249 (by decide +kernel) rfl, rfl⟩, List.forall_mem_cons.mpr ⟨⟨by decide, by decide, inTT 388 (by decide +kernel) rfl, rfl⟩, List.forall_mem_cons.mpr ⟨⟨by decide, by decide, inTT 125 (by decide +kernel) rfl, rfl⟩, fun _ h => absurd h List.not_mem_nil⟩⟩⟩⟩⟩⟩⟩⟩⟩⟩⟩⟩⟩⟩⟩⟩⟩⟩⟩⟩⟩
theorem tF_11 : ∀ q ∈ pF 11, okF 11 q := by
  show ∀ q ∈ [(9, 11, 6), (13, 11, 7), (17, 11, 8), (20, 11, 9), (23, 11, 10), (26, 11, 11), (29, 11, 12), (32, 11, 21), (36, 11, 22), (39, 11, 23), (42, 11, 24), (45, 11, 25), (48, 11, 26), (51, 11, 27), (54, 11, 28), (57, 11, 29), (60, 11, 30), (64, 11, 31), (67, 11, 32), (70, 11, 33), (73, 11, 34), (76, 11, 35), (79, 11, 36), (82, 11, 37), (85, 11, 42), (88, 11, 44), (91, 11, 45), (95, 11, 46), (98, 11, 47), (101, 11, 48), (120, 11, 2), (123, 11, 1), (135, 11, 3), (163, 11, 4), (166, 11, 5), (169, 11, 13), (189, 11, 15), (192, 11, 14), (218, 11, 16), (221, 11, 17), (224, 11, 19), (258, 11, 20), (261, 11, 18), (346, 11, 38), (349, 11, 39), (361, 11, 40), (365, 11, 41), (426, 11, 43), (448, 11, 50), (452, 11, 49)], _
  exact List.forall_mem_cons.mpr ⟨⟨by decide, by decide, inTT 1056 (by decide +kernel) rfl, rfl⟩, List.forall_mem_cons.mpr ⟨⟨by decide, by decide, inTT 1057 (by decide +kernel) rfl, rfl⟩, List.forall_mem_cons.mpr ⟨⟨by decide, by decide, inTT 1058 (by decide +kernel) rfl, rfl⟩, List.forall_mem_cons.mpr ⟨⟨by decide, by decide, inTT 1059 (by decide +kernel) rfl, rfl⟩, List.forall_mem_cons.mpr ⟨⟨by decide, by decide, inTT 1060 (by decide +kernel) rfl, rfl⟩, List.forall_mem_cons.mpr ⟨⟨by decide, by decide, inTT 1061 (by decide +kernel) rfl, rfl⟩, List.forall_mem_cons.mpr ⟨⟨by decide, by decide, inTT 1062 (by decide +kernel) rfl, rfl⟩, List.forall_mem_cons.mpr ⟨⟨by decide, by decide, inTT 1071 (by decide +kernel) rfl, rfl⟩, List.forall_mem_cons.mpr ⟨⟨by decide, by decide, inTT 1072 (by decide +kernel) rfl, rfl⟩, List.forall_mem_cons.mpr ⟨⟨by decide, by decide, inTT 1073 (by decide +kernel) rfl, rfl⟩, List.forall_mem_cons.mpr ⟨⟨by decide, by decide, inTT 1074 (by decide +kernel) rfl, rfl⟩, List.forall_mem_cons.mpr ⟨⟨by decide, by decide, inTT 1075 (by decide +kernel) rfl, rfl⟩, List.forall_mem_cons.mpr ⟨⟨by decide, by decide, inTT 1076 (by decide +kernel) rfl, rfl⟩, List.forall_mem_cons.mpr ⟨⟨by decide, by decide, inTT 1077 (by decide +kernel) rfl, rfl⟩, List.forall_mem_cons.mpr ⟨⟨by decide, by decide, inTT 1078 (by decide +kernel) rfl, rfl⟩, List.forall_mem_cons.mpr ⟨⟨by decide, by decide, inTT 1079 (by decide +kernel) rfl, rfl⟩, List.forall_mem_cons.mpr ⟨⟨by decide, by decide, inTT 1080 (by decide +kernel) rfl, rfl⟩, List.forall_mem_cons.mpr ⟨⟨by decide, by decide, inTT 1081 (by decide +kernel) rfl, rfl⟩, List.forall_mem_cons.mpr ⟨⟨by decide, by decide, inTT 1082 (by decide +kernel) rfl, rfl⟩, List.forall_mem_cons.mpr ⟨⟨by decide, by decide, inTT 1083 (by decide +kernel) rfl, rfl⟩, List.forall_mem_cons.mpr ⟨⟨by decide, by decide, inTT 1084 (by decide +kernel) rfl, rfl⟩, List.forall_mem_cons.mpr ⟨⟨by decide, by decide, inTT 1085 (by decide +kernel) rfl, rfl⟩, List.forall_mem_cons.mpr ⟨⟨by decide, by decide, inTT 1086 (by decide +kernel) rfl, rfl⟩, List.forall_mem_cons.mpr ⟨⟨by decide, by decide, inTT 1087 (by decide +kernel) rfl, rfl⟩, List.forall_mem_cons.mpr ⟨⟨by decide, by decide, inTT 1092 (by decide +kernel) rfl, rfl⟩, List.forall_mem_cons.mpr ⟨⟨by decide, by decide, inTT 1094 (by decide +kernel) rfl, rfl⟩, List.forall_mem_cons.mpr ⟨⟨by decide, by decide, inTT 1095 (by decide +kernel) rfl, rfl⟩, List.forall_mem_cons.mpr ⟨⟨by decide, by decide, inTT 1096 (by decide +kernel) rfl, rfl⟩, List.forall_mem_cons.mpr ⟨⟨by decide, by decide, inTT 1097 (by decide +kernel) rfl, rfl⟩, List.forall_mem_cons.mpr ⟨⟨by decide, by decide, inTT 1098 (by decide +kernel) rfl, rfl⟩, List.forall_mem_cons.mpr ⟨⟨by decide, by decide, inTT 1052 (by decide +kernel) rfl, rfl⟩, List.forall_mem_cons.mpr ⟨⟨by decide, by decide, inTT 1051 (by decide +kernel) rfl, rfl⟩, List.forall_mem_cons.mpr ⟨⟨by decide, by decide, inTT 1053 (by decide +kernel) rfl, rfl⟩, List.forall_mem_cons.mpr ⟨⟨by decide, by decide, inTT 1054 (by decide +kernel) rfl, rfl⟩, List.forall_mem_cons.mpr ⟨⟨by decide, by decide, inTT 1055 (by decide +kernel) rfl, rfl⟩, List.forall_mem_cons.mpr ⟨⟨by decide, by decide, inTT 1063 (by decide +kernel) rfl, rfl⟩, List.forall_mem_cons.mpr ⟨⟨by decide, by decide, inTT 1065 (by decide +kernel) rfl, rfl⟩, List.forall_mem_cons.mpr ⟨⟨by decide, by decide, inTT 1064 (by decide +kernel) rfl, rfl⟩, List.forall_mem_cons.mpr ⟨⟨by decide, by decide, inTT 1066 (by decide +kernel) rfl, rfl⟩, List.forall_mem_cons.mpr ⟨⟨by decide, by decide, inTT 1067 (by decide +kernel) rfl, rfl⟩, List.forall_mem_cons.mpr ⟨⟨by decide, by decide, inTT 1069 (by decide +kernel) rfl, rfl⟩, List.forall_mem_cons.mpr ⟨⟨by decide, by decide, inTT 1070 (by decide +kernel) rfl, rfl⟩, List.forall_mem_cons.mpr ⟨⟨by decide, by decide, inTT 1068 (by decide +kernel) rfl, rfl⟩, List.forall_mem_cons.mpr ⟨⟨by decide, by decide, inTT 1088 (by decide +kernel) rfl, rfl⟩, List.forall_mem_cons.mpr ⟨⟨by decide, by decide, inTT 1089 (by decide +kernel) rfl, rfl⟩, List.forall_mem_cons.mpr ⟨⟨by decide, by decide, inTT 1090 (by decide +kernel) rfl, rfl⟩, List.forall_mem_cons.mpr ⟨⟨by decide, by decide, inTT 1091 (by decide +kernel) rfl, rfl⟩, List.forall_mem_cons.mpr ⟨⟨by decide, by decide, inTT 1093 (by decide +kernel) rfl, rfl⟩, List.forall_mem_cons.mpr ⟨⟨by decide, by decide, inTT 1100 (by decide +kernel) rfl, rfl⟩, List.forall_mem_cons.mpr ⟨⟨by decide, by decide, inTT 1099 (by decide +kernel) rfl, rfl⟩, fun _ h => absurd h List.not_mem_nil⟩⟩⟩⟩⟩⟩⟩⟩⟩⟩⟩⟩⟩⟩⟩⟩⟩⟩⟩⟩⟩⟩⟩⟩⟩⟩⟩⟩⟩⟩⟩⟩⟩⟩⟩⟩⟩⟩⟩⟩⟩⟩⟩⟩⟩⟩⟩⟩⟩⟩
theorem tF_all (c : Nat) : ∀ q ∈ pF c, okF c q := by
  match c with
  | 0 => exact tF_0
  | 1 => exact tF_1
  | 2 => exact tF_2
  | 3 => exact tF_3
  | 4 => exact tF_4
  | 5 => exact tF_5
  | 6 => exact tF_6
  | 7 => exact tF_7
  | 8 => exact tF_8
  | 9 => exact tF_9
  | 10 => exact tF_10
  | 11 => exact tF_11
  | _ + 12 => exact fun _ h => absurd h List.not_mem_nil
theorem tV_0 : ∀ q ∈ pV 0, okV 0 q := by
  show ∀ q ∈ [(33, 1, mX1_expectedIn), (51, 1, mX9_ringOf), (54, 1, mX0_deedsOf), (57, 0, mX2_toZero), (62, 1, mX9_sizeOfRing), (65, 2, mX2_add), (69, 0, mX2_thousandths)], _
  exact List.forall_mem_cons.mpr ⟨⟨inTT 984 (by decide +kernel) rfl, mX1_expectedIn_ok, mX1_expectedIn_v⟩, List.forall_mem_cons.mpr ⟨⟨inTT 992 (by decide +kernel) rfl, mX9_ringOf_ok, mX9_ringOf_v⟩, List.forall_mem_cons.mpr ⟨⟨inTT 993 (by decide +kernel) rfl, mX0_deedsOf_ok, mX0_deedsOf_v⟩, List.forall_mem_cons.mpr ⟨⟨inTT 998 (by decide +kernel) rfl, mX2_toZero_ok, mX2_toZero_v⟩, List.forall_mem_cons.mpr ⟨⟨inTT 999 (by decide +kernel) rfl, mX9_sizeOfRing_ok, mX9_sizeOfRing_v⟩, List.forall_mem_cons.mpr ⟨⟨inTT 1000 (by decide +kernel) rfl, mX2_add_ok, mX2_add_v⟩, List.forall_mem_cons.mpr ⟨⟨inTT 1001 (by decide +kernel) rfl, mX2_thousandths_ok, mX2_thousandths_v⟩, fun _ h => absurd h List.not_mem_nil⟩⟩⟩⟩⟩⟩⟩
theorem tV_1 : ∀ q ∈ pV 1, okV 1 q := by
  show ∀ q ∈ [(37, 1, mX9_menIn), (47, 5, mX1_foretellStreet), (51, 2, mX1_expectWith), (55, 1, mX9_streetAt), (59, 4, mX6_setWords), (63, 1, mX9_ringOf), (66, 2, mX6_setGuardAndRing), (71, 4, mX6_sumOf), (81, 3, mX1_goingFrom), (88, 1, mX9_neighboursOf), (91, 2, mX1_comingFrom), (102, 1, mX1_expectedIn), (105, 2, mX8_bookAt)], _
  exact List.forall_mem_cons.mpr ⟨⟨inTT 706 (by decide +kernel) rfl, mX9_menIn_ok, mX9_menIn_v⟩, List.forall_mem_cons.mpr ⟨⟨inTT 710 (by decide +kernel) rfl, mX1_foretellStreet_ok, mX1_foretellStreet_v⟩, List.forall_mem_cons.mpr ⟨⟨inTT 753 (by decide +kernel) rfl, mX1_expectWith_ok, mX1_expectWith_v⟩, List.forall_mem_cons.mpr ⟨⟨inTT 714 (by decide +kernel) rfl, mX9_streetAt_ok, mX9_streetAt_v⟩, List.forall_mem_cons.mpr ⟨⟨inTT 715 (by decide +kernel) rfl, mX6_setWords_ok, mX6_setWords_v⟩, List.forall_mem_cons.mpr ⟨⟨inTT 724 (by decide +kernel) rfl, mX9_ringOf_ok, mX9_ringOf_v⟩, List.forall_mem_cons.mpr ⟨⟨inTT 725 (by decide +kernel) rfl, mX6_setGuardAndRing_ok, mX6_setGuardAndRing_v⟩, List.forall_mem_cons.mpr ⟨⟨inTT 730 (by decide +kernel) rfl, mX6_sumOf_ok, mX6_sumOf_v⟩, List.forall_mem_cons.mpr ⟨⟨inTT 757 (by decide +kernel) rfl, mX1_goingFrom_ok, mX1_goingFrom_v⟩, List.forall_mem_cons.mpr ⟨⟨inTT 761 (by decide +kernel) rfl, mX9_neighboursOf_ok, mX9_neighboursOf_v⟩, List.forall_mem_cons.mpr ⟨⟨inTT 771 (by decide +kernel) rfl, mX1_comingFrom_ok, mX1_comingFrom_v⟩, List.forall_mem_cons.mpr ⟨⟨inTT 781 (by decide +kernel) rfl, mX1_expectedIn_ok, mX1_expectedIn_v⟩, List.forall_mem_cons.mpr ⟨⟨inTT 947 (by decide +kernel) rfl, mX8_bookAt_ok, mX8_bookAt_v⟩, fun _ h => absurd h List.not_mem_nil⟩⟩⟩⟩⟩⟩⟩⟩⟩⟩⟩⟩⟩
theorem tV_2 : ∀ q ∈ pV 2, okV 2 q := by
  show ∀ q ∈ [(28, 0, mX2_commonDivisor)], _
  exact List.forall_mem_cons.mpr ⟨⟨inTT 840 (by decide +kernel) rfl, mX2_commonDivisor_ok, mX2_commonDivisor_v⟩, fun _ h => absurd h List.not_mem_nil⟩
theorem tV_4 : ∀ q ∈ pV 4, okV 4 q := by
  show ∀ q ∈ [(50, 2, mX7_cut), (54, 1, mX4_goTo), (58, 0, mX4_readClause), (61, 1, mX4_fail), (93, 0, mX4_readSum), (96, 1, mX4_readTest), (99, 1, mX4_readPart), (102, 1, mX4_add), (105, 1, mX4_readFact), (108, 1, mX4_readDeeper), (111, 0, mX4_readTerm), (114, 0, mX4_readValue)], _
  exact List.forall_mem_cons.mpr ⟨⟨inTT 504 (by decide +kernel) rfl, mX7_cut_ok, mX7_cut_v⟩, List.forall_mem_cons.mpr ⟨⟨inTT 612 (by decide +kernel) rfl, mX4_goTo_ok, mX4_goTo_v⟩, List.forall_mem_cons.mpr ⟨⟨inTT 616 (by decide +kernel) rfl, mX4_readClause_ok, mX4_readClause_v⟩, List.forall_mem_cons.mpr ⟨⟨inTT 620 (by decide +kernel) rfl, mX4_fail_ok, mX4_fail_v⟩, List.forall_mem_cons.mpr ⟨⟨inTT 624 (by decide +kernel) rfl, mX4_readSum_ok, mX4_readSum_v⟩, List.forall_mem_cons.mpr ⟨⟨inTT 640 (by decide +kernel) rfl, mX4_readTest_ok, mX4_readTest_v⟩, List.forall_mem_cons.mpr ⟨⟨inTT 644 (by decide +kernel) rfl, mX4_readPart_ok, mX4_readPart_v⟩, List.forall_mem_cons.mpr ⟨⟨inTT 636 (by decide +kernel) rfl, mX4_add_ok, mX4_add_v⟩, List.forall_mem_cons.mpr ⟨⟨inTT 648 (by decide +kernel) rfl, mX4_readFact_ok, mX4_readFact_v⟩, List.forall_mem_cons.mpr ⟨⟨inTT 652 (by decide +kernel) rfl, mX4_readDeeper_ok, mX4_readDeeper_v⟩, List.forall_mem_cons.mpr ⟨⟨inTT 628 (by decide +kernel) rfl, mX4_readTerm_ok, mX4_readTerm_v⟩, List.forall_mem_cons.mpr ⟨⟨inTT 632 (by decide +kernel) rfl, mX4_readValue_ok, mX4_readValue_v⟩, fun _ h => absurd h List.not_mem_nil⟩⟩⟩⟩⟩⟩⟩⟩⟩⟩⟩⟩
theorem tV_5 : ∀ q ∈ pV 5, okV 5 q := by
  show ∀ q ∈ [(31, 1, mX9_streetAt), (35, 1, mX9_ringOf), (39, 2, mX8_bookAt), (45, 0, mX2_toZero), (48, 2, mX2_add), (54, 5, mX5_takeShare), (58, 0, mX2_thousandths), (65, 6, mX5_takeDiffer), (79, 1, mX9_sizeOfRing), (82, 1, mX8_filmAt)], _
  exact List.forall_mem_cons.mpr ⟨⟨inTT 799 (by decide +kernel) rfl, mX9_streetAt_ok, mX9_streetAt_v⟩, List.forall_mem_cons.mpr ⟨⟨inTT 800 (by decide +kernel) rfl, mX9_ringOf_ok, mX9_ringOf_v⟩, List.forall_mem_cons.mpr ⟨⟨inTT 801 (by decide +kernel) rfl, mX8_bookAt_ok, mX8_bookAt_v⟩, List.forall_mem_cons.mpr ⟨⟨inTT 817 (by decide +kernel) rfl, mX2_toZero_ok, mX2_toZero_v⟩, List.forall_mem_cons.mpr ⟨⟨inTT 821 (by decide +kernel) rfl, mX2_add_ok, mX2_add_v⟩, List.forall_mem_cons.mpr ⟨⟨inTT 826 (by decide +kernel) rfl, mX5_takeShare_ok, mX5_takeShare_v⟩, List.forall_mem_cons.mpr ⟨⟨inTT 827 (by decide +kernel) rfl, mX2_thousandths_ok, mX2_thousandths_v⟩, List.forall_mem_cons.mpr ⟨⟨inTT 855 (by decide +kernel) rfl, mX5_takeDiffer_ok, mX5_takeDiffer_v⟩, List.forall_mem_cons.mpr ⟨⟨inTT 912 (by decide +kernel) rfl, mX9_sizeOfRing_ok, mX9_sizeOfRing_v⟩, List.forall_mem_cons.mpr ⟨⟨inTT 891 (by decide +kernel) rfl, mX8_filmAt_ok, mX8_filmAt_v⟩, fun _ h => absurd h List.not_mem_nil⟩⟩⟩⟩⟩⟩⟩⟩⟩⟩
theorem tV_6 : ∀ q ∈ pV 6, okV 6 q := by
  show ∀ q ∈ [(27, 1, mX9_weeksSince), (46, 3, mX6_reckon), (62, 1, mX6_wordWorth)], _
  exact List.forall_mem_cons.mpr ⟨⟨inTT 719 (by decide +kernel) rfl, mX9_weeksSince_ok, mX9_weeksSince_v⟩, List.forall_mem_cons.mpr ⟨⟨inTT 734 (by decide +kernel) rfl, mX6_reckon_ok, mX6_reckon_v⟩, List.forall_mem_cons.mpr ⟨⟨inTT 739 (by decide +kernel) rfl, mX6_wordWorth_ok, mX6_wordWorth_v⟩, fun _ h => absurd h List.not_mem_nil⟩⟩⟩
theorem tV_7 : ∀ q ∈ pV 7, okV 7 q := by
  show ∀ q ∈ [(35, 0, mX7_cutNext), (38, 3, mX7_add), (42, 1, mX7_byteAt), (50, 1, mX7_cutWord), (57, 1, mX7_cutNumber), (60, 2, mX7_cutMark), (68, 2, mX7_isWord), (111, 0, mX7_isEqualNext)], _
  exact List.forall_mem_cons.mpr ⟨⟨inTT 508 (by decide +kernel) rfl, mX7_cutNext_ok, mX7_cutNext_v⟩, List.forall_mem_cons.mpr ⟨⟨inTT 593 (by decide +kernel) rfl, mX7_add_ok, mX7_add_v⟩, List.forall_mem_cons.mpr ⟨⟨inTT 512 (by decide +kernel) rfl, mX7_byteAt_ok, mX7_byteAt_v⟩, List.forall_mem_cons.mpr ⟨⟨inTT 519 (by decide +kernel) rfl, mX7_cutWord_ok, mX7_cutWord_v⟩, List.forall_mem_cons.mpr ⟨⟨inTT 600 (by decide +kernel) rfl, mX7_cutNumber_ok, mX7_cutNumber_v⟩, List.forall_mem_cons.mpr ⟨⟨inTT 604 (by decide +kernel) rfl, mX7_cutMark_ok, mX7_cutMark_v⟩, List.forall_mem_cons.mpr ⟨⟨inTT 541 (by decide +kernel) rfl, mX7_isWord_ok, mX7_isWord_v⟩, List.forall_mem_cons.mpr ⟨⟨inTT 608 (by decide +kernel) rfl, mX7_isEqualNext_ok, mX7_isEqualNext_v⟩, fun _ h => absurd h List.not_mem_nil⟩⟩⟩⟩⟩⟩⟩⟩
theorem tV_9 : ∀ q ∈ pV 9, okV 9 q := by
  show ∀ q ∈ [(37, 1, mX9_streetAt), (41, 1, mX9_ownStreet), (44, 1, mX8_becomeLike), (48, 0, mX9_setRings), (51, 3, mX8_become), (59, 1, mX9_neighboursOf), (72, 1, mX9_neighboursOfSet), (81, 2, mX8_bookAt)], _
  exact List.forall_mem_cons.mpr ⟨⟨inTT 421 (by decide +kernel) rfl, mX9_streetAt_ok, mX9_streetAt_v⟩, List.forall_mem_cons.mpr ⟨⟨inTT 369 (by decide +kernel) rfl, mX9_ownStreet_ok, mX9_ownStreet_v⟩, List.forall_mem_cons.mpr ⟨⟨inTT 1027 (by decide +kernel) rfl, mX8_becomeLike_ok, mX8_becomeLike_v⟩, List.forall_mem_cons.mpr ⟨⟨inTT 417 (by decide +kernel) rfl, mX9_setRings_ok, mX9_setRings_v⟩, List.forall_mem_cons.mpr ⟨⟨inTT 407 (by decide +kernel) rfl, mX8_become_ok, mX8_become_v⟩, List.forall_mem_cons.mpr ⟨⟨inTT 429 (by decide +kernel) rfl, mX9_neighboursOf_ok, mX9_neighboursOf_v⟩, List.forall_mem_cons.mpr ⟨⟨inTT 425 (by decide +kernel) rfl, mX9_neighboursOfSet_ok, mX9_neighboursOfSet_v⟩, List.forall_mem_cons.mpr ⟨⟨inTT 942 (by decide +kernel) rfl, mX8_bookAt_ok, mX8_bookAt_v⟩, fun _ h => absurd h List.not_mem_nil⟩⟩⟩⟩⟩⟩⟩⟩
theorem tV_10 : ∀ q ∈ pV 10, okV 10 q := by
  show ∀ q ∈ [(83, 3, mX9_addStreet), (87, 3, mX9_setBeside), (91, 1, mX9_ringOf), (98, 1, mX9_streetAt), (105, 2, mX8_bookAt), (111, 3, mX8_setBook), (121, 1, mX8_filmAt), (124, 2, mX8_setFilm), (131, 1, mX10_feedNumber), (135, 2, mX4_read), (139, 0, mX4_made), (143, 1, mX10_lawAt), (147, 3, mX1_foretellWeek), (151, 1, mX9_menIn), (154, 3, mX1_answer), (165, 5, mX5_takeShare), (184, 6, mX5_takeDiffer), (192, 1, mX2_lowestPart), (198, 5, mX5_takeDifferAtStart), (204, 1, mX10_keptOff), (207, 1, mX10_nextDoor), (210, 1, mX9_sizeOfRing), (219, 4, mX5_deedsByCars), (226, 2, mX5_takeWhere), (237, 1, mX8_apartFrom), (243, 3, mX10_missOf), (249, 1, mX10_stillBy), (253, 1, mX0_begin), (256, 1, mX1_expectedIn), (259, 1, mX0_deedsOf), (262, 2, mX0_setWeek), (266, 2, mX0_drawTown), (269, 3, mX0_thousandthsOfLast), (278, 3, mX1_foretellBothWays), (286, 1, mX10_partedBy), (292, 1, mX9_becomeLike), (296, 0, mX9_pairsBeside), (300, 1, mX9_tellsOfThefts), (303, 2, mX1_missOfWeek), (307, 2, mX1_expectWith)], _
  exact List.forall_mem_cons.mpr ⟨⟨inTT 365 (by decide +kernel) rfl, mX9_addStreet_ok, mX9_addStreet_v⟩, List.forall_mem_cons.mpr ⟨⟨inTT 437 (by decide +kernel) rfl, mX9_setBeside_ok, mX9_setBeside_v⟩, List.forall_mem_cons.mpr ⟨⟨inTT 445 (by decide +kernel) rfl, mX9_ringOf_ok, mX9_ringOf_v⟩, List.forall_mem_cons.mpr ⟨⟨inTT 457 (by decide +kernel) rfl, mX9_streetAt_ok, mX9_streetAt_v⟩, List.forall_mem_cons.mpr ⟨⟨inTT 461 (by decide +kernel) rfl, mX8_bookAt_ok, mX8_bookAt_v⟩, List.forall_mem_cons.mpr ⟨⟨inTT 465 (by decide +kernel) rfl, mX8_setBook_ok, mX8_setBook_v⟩, List.forall_mem_cons.mpr ⟨⟨inTT 476 (by decide +kernel) rfl, mX8_filmAt_ok, mX8_filmAt_v⟩, List.forall_mem_cons.mpr ⟨⟨inTT 480 (by decide +kernel) rfl, mX8_setFilm_ok, mX8_setFilm_v⟩, List.forall_mem_cons.mpr ⟨⟨inTT 488 (by decide +kernel) rfl, mX10_feedNumber_ok, mX10_feedNumber_v⟩, List.forall_mem_cons.mpr ⟨⟨inTT 500 (by decide +kernel) rfl, mX4_read_ok, mX4_read_v⟩, List.forall_mem_cons.mpr ⟨⟨inTT 656 (by decide +kernel) rfl, mX4_made_ok, mX4_made_v⟩, List.forall_mem_cons.mpr ⟨⟨inTT 698 (by decide +kernel) rfl, mX10_lawAt_ok, mX10_lawAt_v⟩, List.forall_mem_cons.mpr ⟨⟨inTT 702 (by decide +kernel) rfl, mX1_foretellWeek_ok, mX1_foretellWeek_v⟩, List.forall_mem_cons.mpr ⟨⟨inTT 776 (by decide +kernel) rfl, mX9_menIn_ok, mX9_menIn_v⟩, List.forall_mem_cons.mpr ⟨⟨inTT 777 (by decide +kernel) rfl, mX1_answer_ok, mX1_answer_v⟩, List.forall_mem_cons.mpr ⟨⟨inTT 795 (by decide +kernel) rfl, mX5_takeShare_ok, mX5_takeShare_v⟩, List.forall_mem_cons.mpr ⟨⟨inTT 813 (by decide +kernel) rfl, mX5_takeDiffer_ok, mX5_takeDiffer_v⟩, List.forall_mem_cons.mpr ⟨⟨inTT 836 (by decide +kernel) rfl, mX2_lowestPart_ok, mX2_lowestPart_v⟩, List.forall_mem_cons.mpr ⟨⟨inTT 851 (by decide +kernel) rfl, mX5_takeDifferAtStart_ok, mX5_takeDifferAtStart_v⟩, List.forall_mem_cons.mpr ⟨⟨inTT 861 (by decide +kernel) rfl, mX10_keptOff_ok, mX10_keptOff_v⟩, List.forall_mem_cons.mpr ⟨⟨inTT 870 (by decide +kernel) rfl, mX10_nextDoor_ok, mX10_nextDoor_v⟩, List.forall_mem_cons.mpr ⟨⟨inTT 865 (by decide +kernel) rfl, mX9_sizeOfRing_ok, mX9_sizeOfRing_v⟩, List.forall_mem_cons.mpr ⟨⟨inTT 887 (by decide +kernel) rfl, mX5_deedsByCars_ok, mX5_deedsByCars_v⟩, List.forall_mem_cons.mpr ⟨⟨inTT 908 (by decide +kernel) rfl, mX5_takeWhere_ok, mX5_takeWhere_v⟩, List.forall_mem_cons.mpr ⟨⟨inTT 917 (by decide +kernel) rfl, mX8_apartFrom_ok, mX8_apartFrom_v⟩, List.forall_mem_cons.mpr ⟨⟨inTT 934 (by decide +kernel) rfl, mX10_missOf_ok, mX10_missOf_v⟩, List.forall_mem_cons.mpr ⟨⟨inTT 954 (by decide +kernel) rfl, mX10_stillBy_ok, mX10_stillBy_v⟩, List.forall_mem_cons.mpr ⟨⟨inTT 962 (by decide +kernel) rfl, mX0_begin_ok, mX0_begin_v⟩, List.forall_mem_cons.mpr ⟨⟨inTT 966 (by decide +kernel) rfl, mX1_expectedIn_ok, mX1_expectedIn_v⟩, List.forall_mem_cons.mpr ⟨⟨inTT 967 (by decide +kernel) rfl, mX0_deedsOf_ok, mX0_deedsOf_v⟩, List.forall_mem_cons.mpr ⟨⟨inTT 980 (by decide +kernel) rfl, mX0_setWeek_ok, mX0_setWeek_v⟩, List.forall_mem_cons.mpr ⟨⟨inTT 985 (by decide +kernel) rfl, mX0_drawTown_ok, mX0_drawTown_v⟩, List.forall_mem_cons.mpr ⟨⟨inTT 994 (by decide +kernel) rfl, mX0_thousandthsOfLast_ok, mX0_thousandthsOfLast_v⟩, List.forall_mem_cons.mpr ⟨⟨inTT 1007 (by decide +kernel) rfl, mX1_foretellBothWays_ok, mX1_foretellBothWays_v⟩, List.forall_mem_cons.mpr ⟨⟨inTT 1012 (by decide +kernel) rfl, mX10_partedBy_ok, mX10_partedBy_v⟩, List.forall_mem_cons.mpr ⟨⟨inTT 1023 (by decide +kernel) rfl, mX9_becomeLike_ok, mX9_becomeLike_v⟩, List.forall_mem_cons.mpr ⟨⟨inTT 1040 (by decide +kernel) rfl, mX9_pairsBeside_ok, mX9_pairsBeside_v⟩, List.forall_mem_cons.mpr ⟨⟨inTT 938 (by decide +kernel) rfl, mX9_tellsOfThefts_ok, mX9_tellsOfThefts_v⟩, List.forall_mem_cons.mpr ⟨⟨inTT 943 (by decide +kernel) rfl, mX1_missOfWeek_ok, mX1_missOfWeek_v⟩, List.forall_mem_cons.mpr ⟨⟨inTT 1016 (by decide +kernel) rfl, mX1_expectWith_ok, mX1_expectWith_v⟩, fun _ h => absurd h List.not_mem_nil⟩⟩⟩⟩⟩⟩⟩⟩⟩⟩⟩⟩⟩⟩⟩⟩⟩⟩⟩⟩⟩⟩⟩⟩⟩⟩⟩⟩⟩⟩⟩⟩⟩⟩⟩⟩⟩⟩⟩⟩
theorem tV_11 : ∀ q ∈ pV 11, okV 11 q := by
  show ∀ q ∈ [(128, 1, mX11_isStreet), (131, 2, mX11_areBeside), (138, 0, mX11_houses), (142, 1, mX11_around), (146, 1, mX11_ringSet), (149, 1, mX11_ringOf), (172, 1, mX11_put), (195, 0, mX11_sign), (211, 0, mX11_blanks), (214, 1, mX11_stands), (227, 2, mX11_fails), (231, 0, mX11_isDigit), (236, 1, mX11_digits), (239, 1, mX11_isCounted), (242, 2, mX11_entry), (249, 0, mX11_value), (252, 0, mX11_term), (255, 0, mX11_sum), (264, 0, mX11_top), (269, 1, mX11_opens), (272, 0, mX11_compared), (275, 0, mX11_fact), (278, 1, mX11_answers), (291, 1, mX11_takes), (294, 0, mX11_test), (297, 1, mX11_clause), (308, 3, mX11_answer), (312, 4, mX11_looks), (318, 4, mX11_tellsOf), (324, 2, mX11_goesFrom), (331, 1, mX11_isLaw), (336, 0, mX11_ringsOfAll), (339, 1, mX11_guards), (342, 3, mX11_works), (358, 4, mX11_shares), (371, 1, mX11_adds), (387, 5, mX11_differs), (396, 0, mX11_thousandths), (400, 2, mX11_offOf), (419, 3, mX11_missOf), (437, 3, mX11_draws), (444, 4, mX11_parted), (455, 1, mX11_carry), (459, 1, mX11_carries)], _
  exact List.forall_mem_cons.mpr ⟨⟨inTT 1222 (by decide +kernel) rfl, mX11_isStreet_ok, mX11_isStreet_v⟩, List.forall_mem_cons.mpr ⟨⟨inTT 1226 (by decide +kernel) rfl, mX11_areBeside_ok, mX11_areBeside_v⟩, List.forall_mem_cons.mpr ⟨⟨inTT 1242 (by decide +kernel) rfl, mX11_houses_ok, mX11_houses_v⟩, List.forall_mem_cons.mpr ⟨⟨inTT 1246 (by decide +kernel) rfl, mX11_around_ok, mX11_around_v⟩, List.forall_mem_cons.mpr ⟨⟨inTT 1238 (by decide +kernel) rfl, mX11_ringSet_ok, mX11_ringSet_v⟩, List.forall_mem_cons.mpr ⟨⟨inTT 1234 (by decide +kernel) rfl, mX11_ringOf_ok, mX11_ringOf_v⟩, List.forall_mem_cons.mpr ⟨⟨inTT 1275 (by decide +kernel) rfl, mX11_put_ok, mX11_put_v⟩, List.forall_mem_cons.mpr ⟨⟨inTT 1295 (by decide +kernel) rfl, mX11_sign_ok, mX11_sign_v⟩, List.forall_mem_cons.mpr ⟨⟨inTT 1291 (by decide +kernel) rfl, mX11_blanks_ok, mX11_blanks_v⟩, List.forall_mem_cons.mpr ⟨⟨inTT 1300 (by decide +kernel) rfl, mX11_stands_ok, mX11_stands_v⟩, List.forall_mem_cons.mpr ⟨⟨inTT 1308 (by decide +kernel) rfl, mX11_fails_ok, mX11_fails_v⟩, List.forall_mem_cons.mpr ⟨⟨inTT 1324 (by decide +kernel) rfl, mX11_isDigit_ok, mX11_isDigit_v⟩, List.forall_mem_cons.mpr ⟨⟨inTT 1331 (by decide +kernel) rfl, mX11_digits_ok, mX11_digits_v⟩, List.forall_mem_cons.mpr ⟨⟨inTT 1335 (by decide +kernel) rfl, mX11_isCounted_ok, mX11_isCounted_v⟩, List.forall_mem_cons.mpr ⟨⟨inTT 1339 (by decide +kernel) rfl, mX11_entry_ok, mX11_entry_v⟩, List.forall_mem_cons.mpr ⟨⟨inTT 1320 (by decide +kernel) rfl, mX11_value_ok, mX11_value_v⟩, List.forall_mem_cons.mpr ⟨⟨inTT 1316 (by decide +kernel) rfl, mX11_term_ok, mX11_term_v⟩, List.forall_mem_cons.mpr ⟨⟨inTT 1312 (by decide +kernel) rfl, mX11_sum_ok, mX11_sum_v⟩, List.forall_mem_cons.mpr ⟨⟨inTT 1380 (by decide +kernel) rfl, mX11_top_ok, mX11_top_v⟩, List.forall_mem_cons.mpr ⟨⟨inTT 1368 (by decide +kernel) rfl, mX11_opens_ok, mX11_opens_v⟩, List.forall_mem_cons.mpr ⟨⟨inTT 1372 (by decide +kernel) rfl, mX11_compared_ok, mX11_compared_v⟩, List.forall_mem_cons.mpr ⟨⟨inTT 1363 (by decide +kernel) rfl, mX11_fact_ok, mX11_fact_v⟩, List.forall_mem_cons.mpr ⟨⟨inTT 1376 (by decide +kernel) rfl, mX11_answers_ok, mX11_answers_v⟩, List.forall_mem_cons.mpr ⟨⟨inTT 1355 (by decide +kernel) rfl, mX11_takes_ok, mX11_takes_v⟩, List.forall_mem_cons.mpr ⟨⟨inTT 1359 (by decide +kernel) rfl, mX11_test_ok, mX11_test_v⟩, List.forall_mem_cons.mpr ⟨⟨inTT 1287 (by decide +kernel) rfl, mX11_clause_ok, mX11_clause_v⟩, List.forall_mem_cons.mpr ⟨⟨inTT 1419 (by decide +kernel) rfl, mX11_answer_ok, mX11_answer_v⟩, List.forall_mem_cons.mpr ⟨⟨inTT 1410 (by decide +kernel) rfl, mX11_looks_ok, mX11_looks_v⟩, List.forall_mem_cons.mpr ⟨⟨inTT 1415 (by decide +kernel) rfl, mX11_tellsOf_ok, mX11_tellsOf_v⟩, List.forall_mem_cons.mpr ⟨⟨inTT 1430 (by decide +kernel) rfl, mX11_goesFrom_ok, mX11_goesFrom_v⟩, List.forall_mem_cons.mpr ⟨⟨inTT 1390 (by decide +kernel) rfl, mX11_isLaw_ok, mX11_isLaw_v⟩, List.forall_mem_cons.mpr ⟨⟨inTT 1398 (by decide +kernel) rfl, mX11_ringsOfAll_ok, mX11_ringsOfAll_v⟩, List.forall_mem_cons.mpr ⟨⟨inTT 1402 (by decide +kernel) rfl, mX11_guards_ok, mX11_guards_v⟩, List.forall_mem_cons.mpr ⟨⟨inTT 1406 (by decide +kernel) rfl, mX11_works_ok, mX11_works_v⟩, List.forall_mem_cons.mpr ⟨⟨inTT 1447 (by decide +kernel) rfl, mX11_shares_ok, mX11_shares_v⟩, List.forall_mem_cons.mpr ⟨⟨inTT 1468 (by decide +kernel) rfl, mX11_adds_ok, mX11_adds_v⟩, List.forall_mem_cons.mpr ⟨⟨inTT 1461 (by decide +kernel) rfl, mX11_differs_ok, mX11_differs_v⟩, List.forall_mem_cons.mpr ⟨⟨inTT 1476 (by decide +kernel) rfl, mX11_thousandths_ok, mX11_thousandths_v⟩, List.forall_mem_cons.mpr ⟨⟨inTT 1491 (by decide +kernel) rfl, mX11_offOf_ok, mX11_offOf_v⟩, List.forall_mem_cons.mpr ⟨⟨inTT 1538 (by decide +kernel) rfl, mX11_missOf_ok, mX11_missOf_v⟩, List.forall_mem_cons.mpr ⟨⟨inTT 1552 (by decide +kernel) rfl, mX11_draws_ok, mX11_draws_v⟩, List.forall_mem_cons.mpr ⟨⟨inTT 1570 (by decide +kernel) rfl, mX11_parted_ok, mX11_parted_v⟩, List.forall_mem_cons.mpr ⟨⟨inTT 1582 (by decide +kernel) rfl, mX11_carry_ok, mX11_carry_v⟩, List.forall_mem_cons.mpr ⟨⟨inTT 1578 (by decide +kernel) rfl, mX11_carries_ok, mX11_carries_v⟩, fun _ h => absurd h List.not_mem_nil⟩⟩⟩⟩⟩⟩⟩⟩⟩⟩⟩⟩⟩⟩⟩⟩⟩⟩⟩⟩⟩⟩⟩⟩⟩⟩⟩⟩⟩⟩⟩⟩⟩⟩⟩⟩⟩⟩⟩⟩⟩⟩⟩⟩
theorem tV_15 : ∀ q ∈ pV 15, okV 15 q := by
  show ∀ q ∈ [(13, 1, mX10_clock), (17, 1, mX11_clock), (18, 3, mX10_street), (22, 3, mX11_street), (23, 3, mX10_beside), (27, 3, mX11_beside), (28, 1, mX10_ring), (32, 1, mX11_ring), (33, 1, mX10_start), (36, 1, mX11_start), (37, 4, mX10_book), (41, 4, mX11_book), (42, 3, mX10_film), (46, 3, mX11_film), (47, 5, mX10_feed), (51, 5, mX11_feed), (52, 1, mX10_end), (55, 1, mX11_end), (56, 0, mX10_law), (60, 0, mX11_law), (61, 4, mX10_by), (64, 4, mX11_by), (65, 5, mX10_share), (68, 5, mX11_share), (69, 6, mX10_differ), (73, 6, mX11_differ), (74, 5, mX10_alike), (77, 5, mX11_alike), (78, 2, mX10_off), (82, 2, mX11_off), (83, 2, mX10_thin), (87, 2, mX11_thin), (88, 3, mX10_cars), (92, 3, mX11_cars), (93, 1, mX10_edge), (96, 1, mX11_edge), (97, 2, mX10_cost), (100, 2, mX11_cost), (101, 2, mX10_where), (104, 2, mX11_where), (105, 1, mX10_like), (108, 1, mX11_like), (109, 2, mX10_deeds), (112, 2, mX11_deeds), (113, 3, mX10_miss), (116, 3, mX11_miss), (117, 4, mX10_best), (120, 4, mX11_best), (121, 5, mX10_run), (124, 5, mX11_run), (125, 4, mX10_towns), (128, 4, mX11_towns), (129, 4, mX10_plan), (132, 4, mX11_plan), (133, 1, mX10_image), (136, 1, mX11_image), (137, 1, mX10_back), (140, 1, mX11_back), (141, 1, mX10_count), (144, 1, mX11_count)], _
  exact List.forall_mem_cons.mpr ⟨⟨inTT 351 (by decide +kernel) rfl, mX10_clock_ok, mX10_clock_v⟩, List.forall_mem_cons.mpr ⟨⟨inTT 1205 (by decide +kernel) rfl, mX11_clock_ok, mX11_clock_v⟩, List.forall_mem_cons.mpr ⟨⟨inTT 361 (by decide +kernel) rfl, mX10_street_ok, mX10_street_v⟩, List.forall_mem_cons.mpr ⟨⟨inTT 1213 (by decide +kernel) rfl, mX11_street_ok, mX11_street_v⟩, List.forall_mem_cons.mpr ⟨⟨inTT 433 (by decide +kernel) rfl, mX10_beside_ok, mX10_beside_v⟩, List.forall_mem_cons.mpr ⟨⟨inTT 1218 (by decide +kernel) rfl, mX11_beside_ok, mX11_beside_v⟩, List.forall_mem_cons.mpr ⟨⟨inTT 441 (by decide +kernel) rfl, mX10_ring_ok, mX10_ring_v⟩, List.forall_mem_cons.mpr ⟨⟨inTT 1230 (by decide +kernel) rfl, mX11_ring_ok, mX11_ring_v⟩, List.forall_mem_cons.mpr ⟨⟨inTT 449 (by decide +kernel) rfl, mX10_start_ok, mX10_start_v⟩, List.forall_mem_cons.mpr ⟨⟨inTT 1250 (by decide +kernel) rfl, mX11_start_ok, mX11_start_v⟩, List.forall_mem_cons.mpr ⟨⟨inTT 453 (by decide +kernel) rfl, mX10_book_ok, mX10_book_v⟩, List.forall_mem_cons.mpr ⟨⟨inTT 1255 (by decide +kernel) rfl, mX11_book_ok, mX11_book_v⟩, List.forall_mem_cons.mpr ⟨⟨inTT 472 (by decide +kernel) rfl, mX10_film_ok, mX10_film_v⟩, List.forall_mem_cons.mpr ⟨⟨inTT 1267 (by decide +kernel) rfl, mX11_film_ok, mX11_film_v⟩, List.forall_mem_cons.mpr ⟨⟨inTT 484 (by decide +kernel) rfl, mX10_feed_ok, mX10_feed_v⟩, List.forall_mem_cons.mpr ⟨⟨inTT 1271 (by decide +kernel) rfl, mX11_feed_ok, mX11_feed_v⟩, List.forall_mem_cons.mpr ⟨⟨inTT 492 (by decide +kernel) rfl, mX10_end_ok, mX10_end_v⟩, List.forall_mem_cons.mpr ⟨⟨inTT 1279 (by decide +kernel) rfl, mX11_end_ok, mX11_end_v⟩, List.forall_mem_cons.mpr ⟨⟨inTT 496 (by decide +kernel) rfl, mX10_law_ok, mX10_law_v⟩, List.forall_mem_cons.mpr ⟨⟨inTT 1283 (by decide +kernel) rfl, mX11_law_ok, mX11_law_v⟩, List.forall_mem_cons.mpr ⟨⟨inTT 694 (by decide +kernel) rfl, mX10_by_ok, mX10_by_v⟩, List.forall_mem_cons.mpr ⟨⟨inTT 1386 (by decide +kernel) rfl, mX11_by_ok, mX11_by_v⟩, List.forall_mem_cons.mpr ⟨⟨inTT 785 (by decide +kernel) rfl, mX10_share_ok, mX10_share_v⟩, List.forall_mem_cons.mpr ⟨⟨inTT 1437 (by decide +kernel) rfl, mX11_share_ok, mX11_share_v⟩, List.forall_mem_cons.mpr ⟨⟨inTT 802 (by decide +kernel) rfl, mX10_differ_ok, mX10_differ_v⟩, List.forall_mem_cons.mpr ⟨⟨inTT 1451 (by decide +kernel) rfl, mX11_differ_ok, mX11_differ_v⟩, List.forall_mem_cons.mpr ⟨⟨inTT 847 (by decide +kernel) rfl, mX10_alike_ok, mX10_alike_v⟩, List.forall_mem_cons.mpr ⟨⟨inTT 1483 (by decide +kernel) rfl, mX11_alike_ok, mX11_alike_v⟩, List.forall_mem_cons.mpr ⟨⟨inTT 857 (by decide +kernel) rfl, mX10_off_ok, mX10_off_v⟩, List.forall_mem_cons.mpr ⟨⟨inTT 1487 (by decide +kernel) rfl, mX11_off_ok, mX11_off_v⟩, List.forall_mem_cons.mpr ⟨⟨inTT 874 (by decide +kernel) rfl, mX10_thin_ok, mX10_thin_v⟩, List.forall_mem_cons.mpr ⟨⟨inTT 1495 (by decide +kernel) rfl, mX11_thin_ok, mX11_thin_v⟩, List.forall_mem_cons.mpr ⟨⟨inTT 882 (by decide +kernel) rfl, mX10_cars_ok, mX10_cars_v⟩, List.forall_mem_cons.mpr ⟨⟨inTT 1502 (by decide +kernel) rfl, mX11_cars_ok, mX11_cars_v⟩, List.forall_mem_cons.mpr ⟨⟨inTT 894 (by decide +kernel) rfl, mX10_edge_ok, mX10_edge_v⟩, List.forall_mem_cons.mpr ⟨⟨inTT 1508 (by decide +kernel) rfl, mX11_edge_ok, mX11_edge_v⟩, List.forall_mem_cons.mpr ⟨⟨inTT 899 (by decide +kernel) rfl, mX10_cost_ok, mX10_cost_v⟩, List.forall_mem_cons.mpr ⟨⟨inTT 1512 (by decide +kernel) rfl, mX11_cost_ok, mX11_cost_v⟩, List.forall_mem_cons.mpr ⟨⟨inTT 903 (by decide +kernel) rfl, mX10_where_ok, mX10_where_v⟩, List.forall_mem_cons.mpr ⟨⟨inTT 1517 (by decide +kernel) rfl, mX11_where_ok, mX11_where_v⟩, List.forall_mem_cons.mpr ⟨⟨inTT 913 (by decide +kernel) rfl, mX10_like_ok, mX10_like_v⟩, List.forall_mem_cons.mpr ⟨⟨inTT 1522 (by decide +kernel) rfl, mX11_like_ok, mX11_like_v⟩, List.forall_mem_cons.mpr ⟨⟨inTT 924 (by decide +kernel) rfl, mX10_deeds_ok, mX10_deeds_v⟩, List.forall_mem_cons.mpr ⟨⟨inTT 1529 (by decide +kernel) rfl, mX11_deeds_ok, mX11_deeds_v⟩, List.forall_mem_cons.mpr ⟨⟨inTT 930 (by decide +kernel) rfl, mX10_miss_ok, mX10_miss_v⟩, List.forall_mem_cons.mpr ⟨⟨inTT 1534 (by decide +kernel) rfl, mX11_miss_ok, mX11_miss_v⟩, List.forall_mem_cons.mpr ⟨⟨inTT 949 (by decide +kernel) rfl, mX10_best_ok, mX10_best_v⟩, List.forall_mem_cons.mpr ⟨⟨inTT 1542 (by decide +kernel) rfl, mX11_best_ok, mX11_best_v⟩, List.forall_mem_cons.mpr ⟨⟨inTT 958 (by decide +kernel) rfl, mX10_run_ok, mX10_run_v⟩, List.forall_mem_cons.mpr ⟨⟨inTT 1548 (by decide +kernel) rfl, mX11_run_ok, mX11_run_v⟩, List.forall_mem_cons.mpr ⟨⟨inTT 976 (by decide +kernel) rfl, mX10_towns_ok, mX10_towns_v⟩, List.forall_mem_cons.mpr ⟨⟨inTT 1560 (by decide +kernel) rfl, mX11_towns_ok, mX11_towns_v⟩, List.forall_mem_cons.mpr ⟨⟨inTT 1002 (by decide +kernel) rfl, mX10_plan_ok, mX10_plan_v⟩, List.forall_mem_cons.mpr ⟨⟨inTT 1565 (by decide +kernel) rfl, mX11_plan_ok, mX11_plan_v⟩, List.forall_mem_cons.mpr ⟨⟨inTT 1019 (by decide +kernel) rfl, mX10_image_ok, mX10_image_v⟩, List.forall_mem_cons.mpr ⟨⟨inTT 1574 (by decide +kernel) rfl, mX11_image_ok, mX11_image_v⟩, List.forall_mem_cons.mpr ⟨⟨inTT 1032 (by decide +kernel) rfl, mX10_back_ok, mX10_back_v⟩, List.forall_mem_cons.mpr ⟨⟨inTT 1586 (by decide +kernel) rfl, mX11_back_ok, mX11_back_v⟩, List.forall_mem_cons.mpr ⟨⟨inTT 1036 (by decide +kernel) rfl, mX10_count_ok, mX10_count_v⟩, List.forall_mem_cons.mpr ⟨⟨inTT 1590 (by decide +kernel) rfl, mX11_count_ok, mX11_count_v⟩, fun _ h => absurd h List.not_mem_nil⟩⟩⟩⟩⟩⟩⟩⟩⟩⟩⟩⟩⟩⟩⟩⟩⟩⟩⟩⟩⟩⟩⟩⟩⟩⟩⟩⟩⟩⟩⟩⟩⟩⟩⟩⟩⟩⟩⟩⟩⟩⟩⟩⟩⟩⟩⟩⟩⟩⟩⟩⟩⟩⟩⟩⟩⟩⟩⟩⟩
theorem tV_all (c : Nat) : ∀ q ∈ pV c, okV c q := by
  match c with
  | 0 => exact tV_0
  | 1 => exact tV_1
  | 2 => exact tV_2
  | 4 => exact tV_4
  | 5 => exact tV_5
  | 6 => exact tV_6
  | 7 => exact tV_7
  | 9 => exact tV_9
  | 10 => exact tV_10
  | 11 => exact tV_11
  | 15 => exact tV_15
  | 3 => exact fun _ h => absurd h List.not_mem_nil
  | 8 => exact fun _ h => absurd h List.not_mem_nil
  | 12 => exact fun _ h => absurd h List.not_mem_nil
  | 13 => exact fun _ h => absurd h List.not_mem_nil
  | 14 => exact fun _ h => absurd h List.not_mem_nil
  | _ + 16 => exact fun _ h => absurd h List.not_mem_nil
theorem tS_0 : ∀ q ∈ pS 0, okS 0 q := by
  show ∀ q ∈ [(39, 2, mJ7_fill_d0a16)], _
  exact List.forall_mem_cons.mpr ⟨⟨inTT 989 (by decide +kernel) rfl, mJ7_fill_d0a16_ok, mJ7_fill_d0a16_s⟩, fun _ h => absurd h List.not_mem_nil⟩
theorem tS_1 : ∀ q ∈ pS 1, okS 1 q := by
  show ∀ q ∈ [(75, 2, mJ9_max_7cf53), (85, 2, mX1_placeOf), (97, 1, mJ6_bitCount_0f7a4), (110, 1, mJ9_abs_0f7a4)], _
  exact List.forall_mem_cons.mpr ⟨⟨inTT 752 (by decide +kernel) rfl, mJ9_max_7cf53_ok, mJ9_max_7cf53_s⟩, List.forall_mem_cons.mpr ⟨⟨inTT 768 (by decide +kernel) rfl, mX1_placeOf_ok, mX1_placeOf_s⟩, List.forall_mem_cons.mpr ⟨⟨inTT 762 (by decide +kernel) rfl, mJ6_bitCount_0f7a4_ok, mJ6_bitCount_0f7a4_s⟩, List.forall_mem_cons.mpr ⟨⟨inTT 948 (by decide +kernel) rfl, mJ9_abs_0f7a4_ok, mJ9_abs_0f7a4_s⟩, fun _ h => absurd h List.not_mem_nil⟩⟩⟩⟩
theorem tS_2 : ∀ q ∈ pS 2, okS 2 q := by
  show ∀ q ∈ [(22, 2, mJ9_floorDiv_f86c9), (32, 1, mJ9_abs_067f4)], _
  exact List.forall_mem_cons.mpr ⟨⟨inTT 833 (by decide +kernel) rfl, mJ9_floorDiv_f86c9_ok, mJ9_floorDiv_f86c9_s⟩, List.forall_mem_cons.mpr ⟨⟨inTT 844 (by decide +kernel) rfl, mJ9_abs_067f4_ok, mJ9_abs_067f4_s⟩, fun _ h => absurd h List.not_mem_nil⟩⟩
theorem tS_4 : ∀ q ∈ pS 4, okS 4 q := by
  show ∀ q ∈ [(64, 2, mJ9_max_7cf53), (70, 2, mJ7_copyOf_59c91)], _
  exact List.forall_mem_cons.mpr ⟨⟨inTT 660 (by decide +kernel) rfl, mJ9_max_7cf53_ok, mJ9_max_7cf53_s⟩, List.forall_mem_cons.mpr ⟨⟨inTT 663 (by decide +kernel) rfl, mJ7_copyOf_59c91_ok, mJ7_copyOf_59c91_s⟩, fun _ h => absurd h List.not_mem_nil⟩⟩
theorem tS_6 : ∀ q ∈ pS 6, okS 6 q := by
  show ∀ q ∈ [(50, 2, mJ9_min_f86c9), (56, 2, mJ9_max_f86c9), (59, 2, mJ9_max_7cf53), (66, 3, mX6_joined)], _
  exact List.forall_mem_cons.mpr ⟨⟨inTT 746 (by decide +kernel) rfl, mJ9_min_f86c9_ok, mJ9_min_f86c9_s⟩, List.forall_mem_cons.mpr ⟨⟨inTT 749 (by decide +kernel) rfl, mJ9_max_f86c9_ok, mJ9_max_f86c9_s⟩, List.forall_mem_cons.mpr ⟨⟨inTT 738 (by decide +kernel) rfl, mJ9_max_7cf53_ok, mJ9_max_7cf53_s⟩, List.forall_mem_cons.mpr ⟨⟨inTT 743 (by decide +kernel) rfl, mX6_joined_ok, mX6_joined_s⟩, fun _ h => absurd h List.not_mem_nil⟩⟩⟩⟩
theorem tS_7 : ∀ q ∈ pS 7, okS 7 q := by
  show ∀ q ∈ [(46, 1, mX7_isLetter), (54, 1, mX7_isDigit), (64, 1, mX7_wordAt)], _
  exact List.forall_mem_cons.mpr ⟨⟨inTT 516 (by decide +kernel) rfl, mX7_isLetter_ok, mX7_isLetter_s⟩, List.forall_mem_cons.mpr ⟨⟨inTT 597 (by decide +kernel) rfl, mX7_isDigit_ok, mX7_isDigit_s⟩, List.forall_mem_cons.mpr ⟨⟨inTT 523 (by decide +kernel) rfl, mX7_wordAt_ok, mX7_wordAt_s⟩, fun _ h => absurd h List.not_mem_nil⟩⟩⟩
theorem tS_8 : ∀ q ∈ pS 8, okS 8 q := by
  show ∀ q ∈ [(33, 2, mJ7_fill_031fb), (39, 2, mJ7_fill_fb410), (48, 1, mJ9_abs_0f7a4)], _
  exact List.forall_mem_cons.mpr ⟨⟨inTT 411 (by decide +kernel) rfl, mJ7_fill_031fb_ok, mJ7_fill_031fb_s⟩, List.forall_mem_cons.mpr ⟨⟨inTT 414 (by decide +kernel) rfl, mJ7_fill_fb410_ok, mJ7_fill_fb410_s⟩, List.forall_mem_cons.mpr ⟨⟨inTT 921 (by decide +kernel) rfl, mJ9_abs_0f7a4_ok, mJ9_abs_0f7a4_s⟩, fun _ h => absurd h List.not_mem_nil⟩⟩⟩
theorem tS_9 : ∀ q ∈ pS 9, okS 9 q := by
  show ∀ q ∈ [(63, 1, mJ6_bitCount_0f7a4), (75, 2, mJ9_max_7cf53)], _
  exact List.forall_mem_cons.mpr ⟨⟨inTT 869 (by decide +kernel) rfl, mJ6_bitCount_0f7a4_ok, mJ6_bitCount_0f7a4_s⟩, List.forall_mem_cons.mpr ⟨⟨inTT 723 (by decide +kernel) rfl, mJ9_max_7cf53_ok, mJ9_max_7cf53_s⟩, fun _ h => absurd h List.not_mem_nil⟩⟩
theorem tS_10 : ∀ q ∈ pS 10, okS 10 q := by
  show ∀ q ∈ [(72, 1, mX10_isWeek), (79, 3, mX10_isWithin), (102, 1, mX10_isDeed), (118, 2, mX10_change), (158, 1, mX10_isRing), (161, 2, mX10_isSpan), (176, 2, mX10_areUnlikeRings), (179, 1, mX10_isLength), (213, 2, mX10_dividedUpwards), (273, 2, mJ9_min_7cf53), (281, 1, mJ6_bitCount_0f7a4), (289, 2, mJ9_max_f86c9), (310, 1, mJ9_abs_0f7a4), (313, 2, mJ9_floorDiv_f86c9)], _
  exact List.forall_mem_cons.mpr ⟨⟨inTT 355 (by decide +kernel) rfl, mX10_isWeek_ok, mX10_isWeek_s⟩, List.forall_mem_cons.mpr ⟨⟨inTT 358 (by decide +kernel) rfl, mX10_isWithin_ok, mX10_isWithin_s⟩, List.forall_mem_cons.mpr ⟨⟨inTT 458 (by decide +kernel) rfl, mX10_isDeed_ok, mX10_isDeed_s⟩, List.forall_mem_cons.mpr ⟨⟨inTT 469 (by decide +kernel) rfl, mX10_change_ok, mX10_change_s⟩, List.forall_mem_cons.mpr ⟨⟨inTT 789 (by decide +kernel) rfl, mX10_isRing_ok, mX10_isRing_s⟩, List.forall_mem_cons.mpr ⟨⟨inTT 792 (by decide +kernel) rfl, mX10_isSpan_ok, mX10_isSpan_s⟩, List.forall_mem_cons.mpr ⟨⟨inTT 806 (by decide +kernel) rfl, mX10_areUnlikeRings_ok, mX10_areUnlikeRings_s⟩, List.forall_mem_cons.mpr ⟨⟨inTT 809 (by decide +kernel) rfl, mX10_isLength_ok, mX10_isLength_s⟩, List.forall_mem_cons.mpr ⟨⟨inTT 878 (by decide +kernel) rfl, mX10_dividedUpwards_ok, mX10_dividedUpwards_s⟩, List.forall_mem_cons.mpr ⟨⟨inTT 1006 (by decide +kernel) rfl, mJ9_min_7cf53_ok, mJ9_min_7cf53_s⟩, List.forall_mem_cons.mpr ⟨⟨inTT 1011 (by decide +kernel) rfl, mJ6_bitCount_0f7a4_ok, mJ6_bitCount_0f7a4_s⟩, List.forall_mem_cons.mpr ⟨⟨inTT 1018 (by decide +kernel) rfl, mJ9_max_f86c9_ok, mJ9_max_f86c9_s⟩, List.forall_mem_cons.mpr ⟨⟨inTT 1017 (by decide +kernel) rfl, mJ9_abs_0f7a4_ok, mJ9_abs_0f7a4_s⟩, List.forall_mem_cons.mpr ⟨⟨inTT 881 (by decide +kernel) rfl, mJ9_floorDiv_f86c9_ok, mJ9_floorDiv_f86c9_s⟩, fun _ h => absurd h List.not_mem_nil⟩⟩⟩⟩⟩⟩⟩⟩⟩⟩⟩⟩⟩⟩
theorem tS_11 : ∀ q ∈ pS 11, okS 11 q := by
  show ∀ q ∈ [(110, 3, mX11_in), (114, 1, mX11_isWeek), (154, 1, mX11_isDeed), (159, 3, mX11_at), (245, 1, mX11_wordOf), (300, 1, mX11_truth), (304, 3, mX11_both), (328, 1, mX11_bits), (352, 1, mX11_isRing), (355, 2, mX11_isRow), (368, 2, mX11_isAround), (374, 2, mX11_floorOf), (380, 1, mX11_isSpan), (393, 2, mX11_divisor), (403, 2, mX11_upwards), (413, 2, mX11_apart)], _
  exact List.forall_mem_cons.mpr ⟨⟨inTT 1210 (by decide +kernel) rfl, mX11_in_ok, mX11_in_s⟩, List.forall_mem_cons.mpr ⟨⟨inTT 1394 (by decide +kernel) rfl, mX11_isWeek_ok, mX11_isWeek_s⟩, List.forall_mem_cons.mpr ⟨⟨inTT 1259 (by decide +kernel) rfl, mX11_isDeed_ok, mX11_isDeed_s⟩, List.forall_mem_cons.mpr ⟨⟨inTT 1264 (by decide +kernel) rfl, mX11_at_ok, mX11_at_s⟩, List.forall_mem_cons.mpr ⟨⟨inTT 1343 (by decide +kernel) rfl, mX11_wordOf_ok, mX11_wordOf_s⟩, List.forall_mem_cons.mpr ⟨⟨inTT 1426 (by decide +kernel) rfl, mX11_truth_ok, mX11_truth_s⟩, List.forall_mem_cons.mpr ⟨⟨inTT 1423 (by decide +kernel) rfl, mX11_both_ok, mX11_both_s⟩, List.forall_mem_cons.mpr ⟨⟨inTT 1434 (by decide +kernel) rfl, mX11_bits_ok, mX11_bits_s⟩, List.forall_mem_cons.mpr ⟨⟨inTT 1441 (by decide +kernel) rfl, mX11_isRing_ok, mX11_isRing_s⟩, List.forall_mem_cons.mpr ⟨⟨inTT 1444 (by decide +kernel) rfl, mX11_isRow_ok, mX11_isRow_s⟩, List.forall_mem_cons.mpr ⟨⟨inTT 1465 (by decide +kernel) rfl, mX11_isAround_ok, mX11_isAround_s⟩, List.forall_mem_cons.mpr ⟨⟨inTT 1480 (by decide +kernel) rfl, mX11_floorOf_ok, mX11_floorOf_s⟩, List.forall_mem_cons.mpr ⟨⟨inTT 1455 (by decide +kernel) rfl, mX11_isSpan_ok, mX11_isSpan_s⟩, List.forall_mem_cons.mpr ⟨⟨inTT 1473 (by decide +kernel) rfl, mX11_divisor_ok, mX11_divisor_s⟩, List.forall_mem_cons.mpr ⟨⟨inTT 1499 (by decide +kernel) rfl, mX11_upwards_ok, mX11_upwards_s⟩, List.forall_mem_cons.mpr ⟨⟨inTT 1526 (by decide +kernel) rfl, mX11_apart_ok, mX11_apart_s⟩, fun _ h => absurd h List.not_mem_nil⟩⟩⟩⟩⟩⟩⟩⟩⟩⟩⟩⟩⟩⟩⟩⟩
theorem tS_14 : ∀ q ∈ pS 14, okS 14 q := by
  show ∀ q ∈ [(304, 2, mJ9_min_7cf53)], _
  exact List.forall_mem_cons.mpr ⟨⟨inTT 673 (by decide +kernel) rfl, mJ9_min_7cf53_ok, mJ9_min_7cf53_s⟩, fun _ h => absurd h List.not_mem_nil⟩
theorem tS_all (c : Nat) : ∀ q ∈ pS c, okS c q := by
  match c with
  | 0 => exact tS_0
  | 1 => exact tS_1
  | 2 => exact tS_2
  | 4 => exact tS_4
  | 6 => exact tS_6
  | 7 => exact tS_7
  | 8 => exact tS_8
  | 9 => exact tS_9
  | 10 => exact tS_10
  | 11 => exact tS_11
  | 14 => exact tS_14
  | 3 => exact fun _ h => absurd h List.not_mem_nil
  | 5 => exact fun _ h => absurd h List.not_mem_nil
  | 12 => exact fun _ h => absurd h List.not_mem_nil
  | 13 => exact fun _ h => absurd h List.not_mem_nil
  | _ + 15 => exact fun _ h => absurd h List.not_mem_nil
theorem tC_1 : ∀ q ∈ pC 1, okC 1 q := by
  show ∀ q ∈ [(11, 0, mX6_init)], _
  exact List.forall_mem_cons.mpr ⟨⟨Or.inr ⟨"GuardedStreets", List.mem_of_getElem? (i := 265) (by decide +kernel)⟩, mX6_init_ok, mX6_init_i⟩, fun _ h => absurd h List.not_mem_nil⟩
theorem tC_4 : ∀ q ∈ pC 4, okC 4 q := by
  show ∀ q ∈ [(11, 0, mX7_init), (78, 2, mX3_init)], _
  exact List.forall_mem_cons.mpr ⟨⟨Or.inr ⟨"GuardedStreets", List.mem_of_getElem? (i := 157) (by decide +kernel)⟩, mX7_init_ok, mX7_init_i⟩, List.forall_mem_cons.mpr ⟨⟨Or.inl (inTT 681 (by decide +kernel) rfl), mX3_init_ok, mX3_init_i⟩, fun _ h => absurd h List.not_mem_nil⟩⟩
theorem tC_5 : ∀ q ∈ pC 5, okC 5 q := by
  show ∀ q ∈ [(21, 0, mX2_init)], _
  exact List.forall_mem_cons.mpr ⟨⟨Or.inr ⟨"GuardedStreets", List.mem_of_getElem? (i := 232) (by decide +kernel)⟩, mX2_init_ok, mX2_init_i⟩, fun _ h => absurd h List.not_mem_nil⟩
theorem tC_9 : ∀ q ∈ pC 9, okC 9 q := by
  show ∀ q ∈ [(55, 0, mX8_init)], _
  exact List.forall_mem_cons.mpr ⟨⟨Or.inr ⟨"GuardedStreets", List.mem_of_getElem? (i := 374) (by decide +kernel)⟩, mX8_init_ok, mX8_init_i⟩, fun _ h => absurd h List.not_mem_nil⟩
theorem tC_10 : ∀ q ∈ pC 10, okC 10 q := by
  show ∀ q ∈ [(9, 0, mX9_init), (30, 0, mX4_init), (50, 0, mX5_init), (57, 0, mX1_init), (67, 0, mX0_init)], _
  exact List.forall_mem_cons.mpr ⟨⟨Or.inr ⟨"GuardedStreets", List.mem_of_getElem? (i := 110) (by decide +kernel)⟩, mX9_init_ok, mX9_init_i⟩, List.forall_mem_cons.mpr ⟨⟨Or.inr ⟨"GuardedStreets", List.mem_of_getElem? (i := 151) (by decide +kernel)⟩, mX4_init_ok, mX4_init_i⟩, List.forall_mem_cons.mpr ⟨⟨Or.inr ⟨"GuardedStreets", List.mem_of_getElem? (i := 226) (by decide +kernel)⟩, mX5_init_ok, mX5_init_i⟩, List.forall_mem_cons.mpr ⟨⟨Or.inr ⟨"GuardedStreets", List.mem_of_getElem? (i := 259) (by decide +kernel)⟩, mX1_init_ok, mX1_init_i⟩, List.forall_mem_cons.mpr ⟨⟨Or.inr ⟨"GuardedStreets", List.mem_of_getElem? (i := 300) (by decide +kernel)⟩, mX0_init_ok, mX0_init_i⟩, fun _ h => absurd h List.not_mem_nil⟩⟩⟩⟩⟩
theorem tC_15 : ∀ q ∈ pC 15, okC 15 q := by
  show ∀ q ∈ [(9, 0, mX10_init), (12, 0, mX11_init)], _
  exact List.forall_mem_cons.mpr ⟨⟨Or.inl (inTT 102 (by decide +kernel) rfl), mX10_init_ok, mX10_init_i⟩, List.forall_mem_cons.mpr ⟨⟨Or.inl (inTT 1046 (by decide +kernel) rfl), mX11_init_ok, mX11_init_i⟩, fun _ h => absurd h List.not_mem_nil⟩⟩
theorem tC_all (c : Nat) : ∀ q ∈ pC c, okC c q := by
  match c with
  | 1 => exact tC_1
  | 4 => exact tC_4
  | 5 => exact tC_5
  | 9 => exact tC_9
  | 10 => exact tC_10
  | 15 => exact tC_15
  | 0 => exact fun _ h => absurd h List.not_mem_nil
  | 2 => exact fun _ h => absurd h List.not_mem_nil
  | 3 => exact fun _ h => absurd h List.not_mem_nil
  | 6 => exact fun _ h => absurd h List.not_mem_nil
  | 7 => exact fun _ h => absurd h List.not_mem_nil
  | 8 => exact fun _ h => absurd h List.not_mem_nil
  | 11 => exact fun _ h => absurd h List.not_mem_nil
  | 12 => exact fun _ h => absurd h List.not_mem_nil
  | 13 => exact fun _ h => absurd h List.not_mem_nil
  | 14 => exact fun _ h => absurd h List.not_mem_nil
  | _ + 16 => exact fun _ h => absurd h List.not_mem_nil
theorem tO : ∀ c, pO c ≠ 0 → Cond.methodLink (cNm c) (pO c) Lib.objectInit ∈ TT := by
  intro c h
  match c, h with
  | 0, _ => exact inTT 303 (by decide +kernel) rfl
  | 1, _ => exact inTT 262 (by decide +kernel) rfl
  | 2, _ => exact inTT 235 (by decide +kernel) rfl
  | 3, _ => exact inTT 684 (by decide +kernel) rfl
  | 4, _ => exact inTT 154 (by decide +kernel) rfl
  | 5, _ => exact inTT 229 (by decide +kernel) rfl
  | 6, _ => exact inTT 268 (by decide +kernel) rfl
  | 7, _ => exact inTT 160 (by decide +kernel) rfl
  | 8, _ => exact inTT 377 (by decide +kernel) rfl
  | 9, _ => exact inTT 113 (by decide +kernel) rfl
  | 10, _ => exact inTT 105 (by decide +kernel) rfl
  | 11, _ => exact inTT 1049 (by decide +kernel) rfl
  | _ + 12, h => exact absurd rfl h
theorem tSl : ∀ c, pSl c ≠ 0 → Cond.methodLink (cNm c) (pSl c) yJ0_length_8abf5 ∈ TT := by
  intro c h
  match c, h with
  | 0, h => exact absurd rfl h
  | 1, h => exact absurd rfl h
  | 2, h => exact absurd rfl h
  | 3, h => exact absurd rfl h
  | 4, h => exact absurd rfl h
  | 5, h => exact absurd rfl h
  | 6, h => exact absurd rfl h
  | 7, _ => exact inTT 545 (by decide +kernel) rfl
  | 8, h => exact absurd rfl h
  | 9, h => exact absurd rfl h
  | 10, h => exact absurd rfl h
  | 11, _ => exact inTT 1304 (by decide +kernel) rfl
  | _ + 12, h => exact absurd rfl h
theorem tSc : ∀ c, pSc c ≠ 0 → Cond.methodLink (cNm c) (pSc c) yJ0_charAt_5068e ∈ TT := by
  intro c h
  match c, h with
  | 0, h => exact absurd rfl h
  | 1, h => exact absurd rfl h
  | 2, h => exact absurd rfl h
  | 3, h => exact absurd rfl h
  | 4, h => exact absurd rfl h
  | 5, h => exact absurd rfl h
  | 6, h => exact absurd rfl h
  | 7, _ => exact inTT 555 (by decide +kernel) rfl
  | 8, h => exact absurd rfl h
  | 9, h => exact absurd rfl h
  | 10, h => exact absurd rfl h
  | 11, _ => exact inTT 1305 (by decide +kernel) rfl
  | _ + 12, h => exact absurd rfl h
theorem tAc : ∀ c, pAc c ≠ 0 → Cond.methodLink (cNm c) (pAc c) arraycopyName ∈ TT := by
  intro c h
  match c, h with
  | 0, h => exact absurd rfl h
  | 1, h => exact absurd rfl h
  | 2, h => exact absurd rfl h
  | 3, h => exact absurd rfl h
  | 4, h => exact absurd rfl h
  | 5, h => exact absurd rfl h
  | 6, h => exact absurd rfl h
  | 7, h => exact absurd rfl h
  | 8, _ => exact inTT 1031 (by decide +kernel) rfl
  | 9, h => exact absurd rfl h
  | 10, h => exact absurd rfl h
  | 11, h => exact absurd rfl h
  | 12, h => exact absurd rfl h
  | 13, h => exact absurd rfl h
  | 14, _ => exact inTT 676 (by decide +kernel) rfl
  | _ + 15, h => exact absurd rfl h
theorem tN_1 : ∀ q ∈ pN 1, okN 1 q := by
  show ∀ q ∈ [(9, 6)], _
  exact List.forall_mem_cons.mpr ⟨⟨by decide, inTT 263 (by decide +kernel) rfl, inTT 264 (by decide +kernel) rfl, inTT 87 (by decide +kernel) rfl⟩, fun _ h => absurd h List.not_mem_nil⟩
theorem tN_4 : ∀ q ∈ pN 4, okN 4 q := by
  show ∀ q ∈ [(9, 7), (76, 3)], _
  exact List.forall_mem_cons.mpr ⟨⟨by decide, inTT 155 (by decide +kernel) rfl, inTT 156 (by decide +kernel) rfl, inTT 83 (by decide +kernel) rfl⟩, List.forall_mem_cons.mpr ⟨⟨by decide, inTT 679 (by decide +kernel) rfl, inTT 680 (by decide +kernel) rfl, inTT 98 (by decide +kernel) rfl⟩, fun _ h => absurd h List.not_mem_nil⟩⟩
theorem tN_5 : ∀ q ∈ pN 5, okN 5 q := by
  show ∀ q ∈ [(19, 2)], _
  exact List.forall_mem_cons.mpr ⟨⟨by decide, inTT 230 (by decide +kernel) rfl, inTT 231 (by decide +kernel) rfl, inTT 85 (by decide +kernel) rfl⟩, fun _ h => absurd h List.not_mem_nil⟩
theorem tN_9 : ∀ q ∈ pN 9, okN 9 q := by
  show ∀ q ∈ [(27, 8)], _
  exact List.forall_mem_cons.mpr ⟨⟨by decide, inTT 114 (by decide +kernel) rfl, inTT 373 (by decide +kernel) rfl, inTT 90 (by decide +kernel) rfl⟩, fun _ h => absurd h List.not_mem_nil⟩
theorem tN_10 : ∀ q ∈ pN 10, okN 10 q := by
  show ∀ q ∈ [(7, 9), (28, 4), (48, 5), (55, 1), (65, 0)], _
  exact List.forall_mem_cons.mpr ⟨⟨by decide, inTT 108 (by decide +kernel) rfl, inTT 109 (by decide +kernel) rfl, inTT 81 (by decide +kernel) rfl⟩, List.forall_mem_cons.mpr ⟨⟨by decide, inTT 149 (by decide +kernel) rfl, inTT 150 (by decide +kernel) rfl, inTT 82 (by decide +kernel) rfl⟩, List.forall_mem_cons.mpr ⟨⟨by decide, inTT 224 (by decide +kernel) rfl, inTT 225 (by decide +kernel) rfl, inTT 84 (by decide +kernel) rfl⟩, List.forall_mem_cons.mpr ⟨⟨by decide, inTT 257 (by decide +kernel) rfl, inTT 258 (by decide +kernel) rfl, inTT 86 (by decide +kernel) rfl⟩, List.forall_mem_cons.mpr ⟨⟨by decide, inTT 298 (by decide +kernel) rfl, inTT 299 (by decide +kernel) rfl, inTT 88 (by decide +kernel) rfl⟩, fun _ h => absurd h List.not_mem_nil⟩⟩⟩⟩⟩
theorem tN_15 : ∀ q ∈ pN 15, okN 15 q := by
  show ∀ q ∈ [(7, 10), (10, 11)], _
  exact List.forall_mem_cons.mpr ⟨⟨by decide, inTT 100 (by decide +kernel) rfl, inTT 101 (by decide +kernel) rfl, inTT 80 (by decide +kernel) rfl⟩, List.forall_mem_cons.mpr ⟨⟨by decide, inTT 1044 (by decide +kernel) rfl, inTT 1045 (by decide +kernel) rfl, inTT 89 (by decide +kernel) rfl⟩, fun _ h => absurd h List.not_mem_nil⟩⟩
theorem tN_all (c : Nat) : ∀ q ∈ pN c, okN c q := by
  match c with
  | 1 => exact tN_1
  | 4 => exact tN_4
  | 5 => exact tN_5
  | 9 => exact tN_9
  | 10 => exact tN_10
  | 15 => exact tN_15
  | 0 => exact fun _ h => absurd h List.not_mem_nil
  | 2 => exact fun _ h => absurd h List.not_mem_nil
  | 3 => exact fun _ h => absurd h List.not_mem_nil
  | 6 => exact fun _ h => absurd h List.not_mem_nil
  | 7 => exact fun _ h => absurd h List.not_mem_nil
  | 8 => exact fun _ h => absurd h List.not_mem_nil
  | 11 => exact fun _ h => absurd h List.not_mem_nil
  | 12 => exact fun _ h => absurd h List.not_mem_nil
  | 13 => exact fun _ h => absurd h List.not_mem_nil
  | 14 => exact fun _ h => absurd h List.not_mem_nil
  | _ + 16 => exact fun _ h => absurd h List.not_mem_nil
theorem tA_9 : ∀ q ∈ pA 9, okA 9 q := by
  show ∀ q ∈ [(27, 5)], _
  exact List.forall_mem_cons.mpr ⟨⟨by decide, inTT 114 (by decide +kernel) rfl⟩, fun _ h => absurd h List.not_mem_nil⟩
theorem tA_10 : ∀ q ∈ pA 10, okA 10 q := by
  show ∀ q ∈ [(7, 6), (35, 7)], _
  exact List.forall_mem_cons.mpr ⟨⟨by decide, inTT 108 (by decide +kernel) rfl⟩, List.forall_mem_cons.mpr ⟨⟨by decide, inTT 222 (by decide +kernel) rfl⟩, fun _ h => absurd h List.not_mem_nil⟩⟩
theorem tA_all (c : Nat) : ∀ q ∈ pA c, okA c q := by
  match c with
  | 9 => exact tA_9
  | 10 => exact tA_10
  | 0 => exact fun _ h => absurd h List.not_mem_nil
  | 1 => exact fun _ h => absurd h List.not_mem_nil
  | 2 => exact fun _ h => absurd h List.not_mem_nil
  | 3 => exact fun _ h => absurd h List.not_mem_nil
  | 4 => exact fun _ h => absurd h List.not_mem_nil
  | 5 => exact fun _ h => absurd h List.not_mem_nil
  | 6 => exact fun _ h => absurd h List.not_mem_nil
  | 7 => exact fun _ h => absurd h List.not_mem_nil
  | 8 => exact fun _ h => absurd h List.not_mem_nil
  | _ + 11 => exact fun _ h => absurd h List.not_mem_nil
theorem tK_1 : ∀ q ∈ pK 1, okK 1 q := by
  show ∀ q ∈ [(70, 99999)], _
  exact List.forall_mem_cons.mpr ⟨inTT 729 (by decide +kernel) rfl, fun _ h => absurd h List.not_mem_nil⟩
theorem tK_10 : ∀ q ∈ pK 10, okK 10 q := by
  show ∀ q ∈ [(225, -1000000000), (241, -1000000), (242, 1000000)], _
  exact List.forall_mem_cons.mpr ⟨inTT 907 (by decide +kernel) rfl, List.forall_mem_cons.mpr ⟨inTT 928 (by decide +kernel) rfl, List.forall_mem_cons.mpr ⟨inTT 929 (by decide +kernel) rfl, fun _ h => absurd h List.not_mem_nil⟩⟩⟩
theorem tK_11 : ∀ q ∈ pK 11, okK 11 q := by
  show ∀ q ∈ [(94, 125600), (235, 99999), (412, -1000000000)], _
  exact List.forall_mem_cons.mpr ⟨inTT 1050 (by decide +kernel) rfl, List.forall_mem_cons.mpr ⟨inTT 1330 (by decide +kernel) rfl, List.forall_mem_cons.mpr ⟨inTT 1521 (by decide +kernel) rfl, fun _ h => absurd h List.not_mem_nil⟩⟩⟩
theorem tK_12 : ∀ q ∈ pK 12, okK 12 q := by
  show ∀ q ∈ [(265, 1431655765), (266, 858993459), (267, 252645135)], _
  exact List.forall_mem_cons.mpr ⟨inTT 765 (by decide +kernel) rfl, List.forall_mem_cons.mpr ⟨inTT 766 (by decide +kernel) rfl, List.forall_mem_cons.mpr ⟨inTT 767 (by decide +kernel) rfl, fun _ h => absurd h List.not_mem_nil⟩⟩⟩
theorem tK_all (c : Nat) : ∀ q ∈ pK c, okK c q := by
  match c with
  | 1 => exact tK_1
  | 10 => exact tK_10
  | 11 => exact tK_11
  | 12 => exact tK_12
  | 0 => exact fun _ h => absurd h List.not_mem_nil
  | 2 => exact fun _ h => absurd h List.not_mem_nil
  | 3 => exact fun _ h => absurd h List.not_mem_nil
  | 4 => exact fun _ h => absurd h List.not_mem_nil
  | 5 => exact fun _ h => absurd h List.not_mem_nil
  | 6 => exact fun _ h => absurd h List.not_mem_nil
  | 7 => exact fun _ h => absurd h List.not_mem_nil
  | 8 => exact fun _ h => absurd h List.not_mem_nil
  | 9 => exact fun _ h => absurd h List.not_mem_nil
  | _ + 13 => exact fun _ h => absurd h List.not_mem_nil
theorem tJ_0 : ∀ q ∈ pJ 0, okJ 0 q := by
  show ∀ q ∈ [(23, 1103515245), (25, 12345), (27, 2147483648), (29, 65536), (31, 1000)], _
  exact List.forall_mem_cons.mpr ⟨inTT 971 (by decide +kernel) rfl, List.forall_mem_cons.mpr ⟨inTT 972 (by decide +kernel) rfl, List.forall_mem_cons.mpr ⟨inTT 973 (by decide +kernel) rfl, List.forall_mem_cons.mpr ⟨inTT 974 (by decide +kernel) rfl, List.forall_mem_cons.mpr ⟨inTT 975 (by decide +kernel) rfl, fun _ h => absurd h List.not_mem_nil⟩⟩⟩⟩⟩
theorem tJ_1 : ∀ q ∈ pJ 1, okJ 1 q := by
  show ∀ q ∈ [(95, 1000)], _
  exact List.forall_mem_cons.mpr ⟨inTT 775 (by decide +kernel) rfl, fun _ h => absurd h List.not_mem_nil⟩
theorem tJ_2 : ∀ q ∈ pJ 2, okJ 2 q := by
  show ∀ q ∈ [(18, -1000000000), (20, 1000)], _
  exact List.forall_mem_cons.mpr ⟨inTT 831 (by decide +kernel) rfl, List.forall_mem_cons.mpr ⟨inTT 832 (by decide +kernel) rfl, fun _ h => absurd h List.not_mem_nil⟩⟩
theorem tJ_5 : ∀ q ∈ pJ 5, okJ 5 q := by
  show ∀ q ∈ [(52, -1000000000), (85, -2), (87, 1000000)], _
  exact List.forall_mem_cons.mpr ⟨inTT 825 (by decide +kernel) rfl, List.forall_mem_cons.mpr ⟨inTT 892 (by decide +kernel) rfl, List.forall_mem_cons.mpr ⟨inTT 893 (by decide +kernel) rfl, fun _ h => absurd h List.not_mem_nil⟩⟩⟩
theorem tJ_10 : ∀ q ∈ pJ 10, okJ 10 q := by
  show ∀ q ∈ [(182, -2000000000), (202, -1000000000), (217, -1), (223, 1000), (247, 100)], _
  exact List.forall_mem_cons.mpr ⟨inTT 812 (by decide +kernel) rfl, List.forall_mem_cons.mpr ⟨inTT 856 (by decide +kernel) rfl, List.forall_mem_cons.mpr ⟨inTT 886 (by decide +kernel) rfl, List.forall_mem_cons.mpr ⟨inTT 898 (by decide +kernel) rfl, List.forall_mem_cons.mpr ⟨inTT 953 (by decide +kernel) rfl, fun _ h => absurd h List.not_mem_nil⟩⟩⟩⟩⟩
theorem tJ_11 : ∀ q ∈ pJ 11, okJ 11 q := by
  show ∀ q ∈ [(108, 259), (126, 999), (152, -1), (118, 3), (157, 99), (198, 48), (200, 57), (334, 4), (316, 99999), (322, 1000), (378, 12), (383, 2), (385, -2000000000), (391, -1000000000), (406, -2), (408, 1000000), (410, 9999), (417, -1000000), (422, 900), (424, 100), (429, 1103515245), (431, 12345), (433, 2147483648), (435, 65536), (440, 60), (442, 10)], _
  exact List.forall_mem_cons.mpr ⟨inTT 1209 (by decide +kernel) rfl, List.forall_mem_cons.mpr ⟨inTT 1217 (by decide +kernel) rfl, List.forall_mem_cons.mpr ⟨inTT 1254 (by decide +kernel) rfl, List.forall_mem_cons.mpr ⟨inTT 1262 (by decide +kernel) rfl, List.forall_mem_cons.mpr ⟨inTT 1263 (by decide +kernel) rfl, List.forall_mem_cons.mpr ⟨inTT 1328 (by decide +kernel) rfl, List.forall_mem_cons.mpr ⟨inTT 1329 (by decide +kernel) rfl, List.forall_mem_cons.mpr ⟨inTT 1397 (by decide +kernel) rfl, List.forall_mem_cons.mpr ⟨inTT 1414 (by decide +kernel) rfl, List.forall_mem_cons.mpr ⟨inTT 1429 (by decide +kernel) rfl, List.forall_mem_cons.mpr ⟨inTT 1458 (by decide +kernel) rfl, List.forall_mem_cons.mpr ⟨inTT 1459 (by decide +kernel) rfl, List.forall_mem_cons.mpr ⟨inTT 1460 (by decide +kernel) rfl, List.forall_mem_cons.mpr ⟨inTT 1472 (by decide +kernel) rfl, List.forall_mem_cons.mpr ⟨inTT 1506 (by decide +kernel) rfl, List.forall_mem_cons.mpr ⟨inTT 1507 (by decide +kernel) rfl, List.forall_mem_cons.mpr ⟨inTT 1516 (by decide +kernel) rfl, List.forall_mem_cons.mpr ⟨inTT 1533 (by decide +kernel) rfl, List.forall_mem_cons.mpr ⟨inTT 1546 (by decide +kernel) rfl, List.forall_mem_cons.mpr ⟨inTT 1547 (by decide +kernel) rfl, List.forall_mem_cons.mpr ⟨inTT 1556 (by decide +kernel) rfl, List.forall_mem_cons.mpr ⟨inTT 1557 (by decide +kernel) rfl, List.forall_mem_cons.mpr ⟨inTT 1558 (by decide +kernel) rfl, List.forall_mem_cons.mpr ⟨inTT 1559 (by decide +kernel) rfl, List.forall_mem_cons.mpr ⟨inTT 1564 (by decide +kernel) rfl, List.forall_mem_cons.mpr ⟨inTT 1569 (by decide +kernel) rfl, fun _ h => absurd h List.not_mem_nil⟩⟩⟩⟩⟩⟩⟩⟩⟩⟩⟩⟩⟩⟩⟩⟩⟩⟩⟩⟩⟩⟩⟩⟩⟩⟩
theorem tJ_all (c : Nat) : ∀ q ∈ pJ c, okJ c q := by
  match c with
  | 0 => exact tJ_0
  | 1 => exact tJ_1
  | 2 => exact tJ_2
  | 5 => exact tJ_5
  | 10 => exact tJ_10
  | 11 => exact tJ_11
  | 3 => exact fun _ h => absurd h List.not_mem_nil
  | 4 => exact fun _ h => absurd h List.not_mem_nil
  | 6 => exact fun _ h => absurd h List.not_mem_nil
  | 7 => exact fun _ h => absurd h List.not_mem_nil
  | 8 => exact fun _ h => absurd h List.not_mem_nil
  | 9 => exact fun _ h => absurd h List.not_mem_nil
  | _ + 12 => exact fun _ h => absurd h List.not_mem_nil
