-- words (written by program)
theorem wm_48 : Cond.initialized nR_LAW ∈ lw_ws := lw_m (i := 48) (by decide +kernel) (by decide +kernel)
theorem wm_228 : Cond.methodLink nR_LAW 80 nN_TM_floating ∈ lw_ws := lw_m (i := 228) (by decide +kernel) (by decide +kernel)
theorem wm_229 : Cond.instanceMethod nN_TM_floating ∈ lw_ws := lw_m (i := 229) (by decide +kernel) (by decide +kernel)
theorem wm_230 : Cond.selects nR_TM nN_TM_floating nN_TM_floating ∈ lw_ws := lw_m (i := 230) (by decide +kernel) (by decide +kernel)
set_option maxRecDepth 100000 in
theorem wm_231 : Cond.code nN_TM_floating nC_TM_floating 2 (some .int) ∈ lw_ws := lw_m (i := 231) rfl (by decide +kernel)
theorem wm_235 : Cond.methodLink nR_LAW 84 nN_TM_general ∈ lw_ws := lw_m (i := 235) (by decide +kernel) (by decide +kernel)
theorem wm_236 : Cond.instanceMethod nN_TM_general ∈ lw_ws := lw_m (i := 236) (by decide +kernel) (by decide +kernel)
theorem wm_237 : Cond.selects nR_TM nN_TM_general nN_TM_general ∈ lw_ws := lw_m (i := 237) (by decide +kernel) (by decide +kernel)
set_option maxRecDepth 100000 in
theorem wm_238 : Cond.code nN_TM_general nC_TM_general 2 (some .int) ∈ lw_ws := lw_m (i := 238) rfl (by decide +kernel)
theorem wm_239 : Cond.methodLink nR_LAW 88 nN_TM_word ∈ lw_ws := lw_m (i := 239) (by decide +kernel) (by decide +kernel)
theorem wm_240 : Cond.instanceMethod nN_TM_word ∈ lw_ws := lw_m (i := 240) (by decide +kernel) (by decide +kernel)
theorem wm_241 : Cond.selects nR_TM nN_TM_word nN_TM_word ∈ lw_ws := lw_m (i := 241) (by decide +kernel) (by decide +kernel)
set_option maxRecDepth 100000 in
theorem wm_242 : Cond.code nN_TM_word nC_TM_word 2 (some .int) ∈ lw_ws := lw_m (i := 242) rfl (by decide +kernel)
theorem wm_246 : Cond.methodLink nR_LAW 92 nN_TM_tag ∈ lw_ws := lw_m (i := 246) (by decide +kernel) (by decide +kernel)
theorem wm_247 : Cond.instanceMethod nN_TM_tag ∈ lw_ws := lw_m (i := 247) (by decide +kernel) (by decide +kernel)
theorem wm_248 : Cond.selects nR_TM nN_TM_tag nN_TM_tag ∈ lw_ws := lw_m (i := 248) (by decide +kernel) (by decide +kernel)
set_option maxRecDepth 100000 in
theorem wm_249 : Cond.code nN_TM_tag nC_TM_tag 2 (some .int) ∈ lw_ws := lw_m (i := 249) rfl (by decide +kernel)
theorem wm_250 : Cond.methodLink nR_LAW 96 nN_TM_place ∈ lw_ws := lw_m (i := 250) (by decide +kernel) (by decide +kernel)
theorem wm_251 : Cond.instanceMethod nN_TM_place ∈ lw_ws := lw_m (i := 251) (by decide +kernel) (by decide +kernel)
theorem wm_252 : Cond.selects nR_TM nN_TM_place nN_TM_place ∈ lw_ws := lw_m (i := 252) (by decide +kernel) (by decide +kernel)
set_option maxRecDepth 100000 in
theorem wm_253 : Cond.code nN_TM_place nC_TM_place 2 (some .int) ∈ lw_ws := lw_m (i := 253) rfl (by decide +kernel)
theorem wm_254 : Cond.methodLink nR_LAW 100 nN_TM_about ∈ lw_ws := lw_m (i := 254) (by decide +kernel) (by decide +kernel)
theorem wm_255 : Cond.instanceMethod nN_TM_about ∈ lw_ws := lw_m (i := 255) (by decide +kernel) (by decide +kernel)
theorem wm_256 : Cond.selects nR_TM nN_TM_about nN_TM_about ∈ lw_ws := lw_m (i := 256) (by decide +kernel) (by decide +kernel)
set_option maxRecDepth 100000 in
theorem wm_257 : Cond.code nN_TM_about nC_TM_about 2 (some .int) ∈ lw_ws := lw_m (i := 257) rfl (by decide +kernel)
theorem wm_261 : Cond.methodLink nR_LAW 51 nN_LAW_put ∈ lw_ws := lw_m (i := 261) (by decide +kernel) (by decide +kernel)
theorem wm_262 : Cond.static nN_LAW_put ∈ lw_ws := lw_m (i := 262) (by decide +kernel) (by decide +kernel)
set_option maxRecDepth 100000 in
theorem wm_263 : Cond.codeWith nN_LAW_put nC_LAW_put 8 (some .int) [(0, 16, 19, 13), (0, 16, 23, 15)] ∈ lw_ws := lw_m (i := 263) rfl (by decide +kernel)
theorem wm_355 : Cond.methodLink nR_LAW 59 nN_LAW_start ∈ lw_ws := lw_m (i := 355) (by decide +kernel) (by decide +kernel)
theorem wm_356 : Cond.static nN_LAW_start ∈ lw_ws := lw_m (i := 356) (by decide +kernel) (by decide +kernel)
set_option maxRecDepth 100000 in
theorem wm_357 : Cond.codeWith nN_LAW_start nC_LAW_start 4 (some .int) [(0, 16, 19, 13), (0, 16, 22, 15)] ∈ lw_ws := lw_m (i := 357) rfl (by decide +kernel)
theorem wm_366 : Cond.methodLink nR_LAW 63 nN_LAW_run ∈ lw_ws := lw_m (i := 366) (by decide +kernel) (by decide +kernel)
theorem wm_367 : Cond.static nN_LAW_run ∈ lw_ws := lw_m (i := 367) (by decide +kernel) (by decide +kernel)
set_option maxRecDepth 100000 in
theorem wm_368 : Cond.codeWith nN_LAW_run nC_LAW_run 4 (some .int) [(0, 9, 12, 13), (0, 9, 15, 15)] ∈ lw_ws := lw_m (i := 368) rfl (by decide +kernel)
theorem wm_548 : Cond.methodLink nR_LAW 66 nN_LAW_set ∈ lw_ws := lw_m (i := 548) (by decide +kernel) (by decide +kernel)
theorem wm_549 : Cond.static nN_LAW_set ∈ lw_ws := lw_m (i := 549) (by decide +kernel) (by decide +kernel)
set_option maxRecDepth 100000 in
theorem wm_550 : Cond.codeWith nN_LAW_set nC_LAW_set 5 (some .int) [(0, 17, 20, 13), (0, 17, 24, 15)] ∈ lw_ws := lw_m (i := 550) rfl (by decide +kernel)
theorem wm_556 : Cond.methodLink nR_LAW 70 nN_LAW_store ∈ lw_ws := lw_m (i := 556) (by decide +kernel) (by decide +kernel)
theorem wm_557 : Cond.static nN_LAW_store ∈ lw_ws := lw_m (i := 557) (by decide +kernel) (by decide +kernel)
set_option maxRecDepth 100000 in
theorem wm_558 : Cond.codeWith nN_LAW_store nC_LAW_store 5 (some .int) [(0, 17, 20, 13), (0, 17, 24, 15)] ∈ lw_ws := lw_m (i := 558) rfl (by decide +kernel)
theorem wm_563 : Cond.methodLink nR_LAW 73 nN_LAW_reckon ∈ lw_ws := lw_m (i := 563) (by decide +kernel) (by decide +kernel)
theorem wm_564 : Cond.static nN_LAW_reckon ∈ lw_ws := lw_m (i := 564) (by decide +kernel) (by decide +kernel)
set_option maxRecDepth 100000 in
theorem wm_565 : Cond.codeWith nN_LAW_reckon nC_LAW_reckon 6 (some .int) [(0, 12, 15, 13)] ∈ lw_ws := lw_m (i := 565) rfl (by decide +kernel)
theorem wm_573 : Cond.methodLink nR_LAW 77 nN_LAW_exceptions ∈ lw_ws := lw_m (i := 573) (by decide +kernel) (by decide +kernel)
theorem wm_574 : Cond.static nN_LAW_exceptions ∈ lw_ws := lw_m (i := 574) (by decide +kernel) (by decide +kernel)
set_option maxRecDepth 100000 in
theorem wm_575 : Cond.codeWith nN_LAW_exceptions nC_LAW_exceptions 6 (some .int) [(0, 12, 15, 13)] ∈ lw_ws := lw_m (i := 575) rfl (by decide +kernel)
theorem wm_677 : Cond.methodLink nR_LAW 55 nN_MOD_thrown ∈ lw_ws := lw_m (i := 677) (by decide +kernel) (by decide +kernel)
theorem wm_678 : Cond.instanceMethod nN_MOD_thrown ∈ lw_ws := lw_m (i := 678) (by decide +kernel) (by decide +kernel)
theorem wm_679 : Cond.selects nR_MOD nN_MOD_thrown nN_MOD_thrown ∈ lw_ws := lw_m (i := 679) (by decide +kernel) (by decide +kernel)
set_option maxRecDepth 100000 in
theorem wm_680 : Cond.code nN_MOD_thrown nC_MOD_thrown 1 (some .int) ∈ lw_ws := lw_m (i := 680) rfl (by decide +kernel)
theorem wm_681 : Cond.methodLink nR_LAW 76 nN_MOD_reckon ∈ lw_ws := lw_m (i := 681) (by decide +kernel) (by decide +kernel)
theorem wm_682 : Cond.instanceMethod nN_MOD_reckon ∈ lw_ws := lw_m (i := 682) (by decide +kernel) (by decide +kernel)
theorem wm_683 : Cond.selects nR_MOD nN_MOD_reckon nN_MOD_reckon ∈ lw_ws := lw_m (i := 683) (by decide +kernel) (by decide +kernel)
set_option maxRecDepth 100000 in
theorem wm_684 : Cond.code nN_MOD_reckon nC_MOD_reckon 4 (some .int) ∈ lw_ws := lw_m (i := 684) rfl (by decide +kernel)
theorem wm_738 : Cond.methodLink nR_LAW 79 nN_MOD_exceptions ∈ lw_ws := lw_m (i := 738) (by decide +kernel) (by decide +kernel)
theorem wm_739 : Cond.instanceMethod nN_MOD_exceptions ∈ lw_ws := lw_m (i := 739) (by decide +kernel) (by decide +kernel)
theorem wm_740 : Cond.selects nR_MOD nN_MOD_exceptions nN_MOD_exceptions ∈ lw_ws := lw_m (i := 740) (by decide +kernel) (by decide +kernel)
set_option maxRecDepth 100000 in
theorem wm_741 : Cond.code nN_MOD_exceptions nC_MOD_exceptions 5 (some .int) ∈ lw_ws := lw_m (i := 741) rfl (by decide +kernel)
theorem wm_742 : Cond.methodLink nR_LAW 54 nN_MOD_put ∈ lw_ws := lw_m (i := 742) (by decide +kernel) (by decide +kernel)
theorem wm_743 : Cond.instanceMethod nN_MOD_put ∈ lw_ws := lw_m (i := 743) (by decide +kernel) (by decide +kernel)
theorem wm_744 : Cond.selects nR_MOD nN_MOD_put nN_MOD_put ∈ lw_ws := lw_m (i := 744) (by decide +kernel) (by decide +kernel)
set_option maxRecDepth 100000 in
theorem wm_745 : Cond.code nN_MOD_put nC_MOD_put 7 (some .int) ∈ lw_ws := lw_m (i := 745) rfl (by decide +kernel)
theorem wm_753 : Cond.methodLink nR_LAW 62 nN_MOD_start ∈ lw_ws := lw_m (i := 753) (by decide +kernel) (by decide +kernel)
theorem wm_754 : Cond.instanceMethod nN_MOD_start ∈ lw_ws := lw_m (i := 754) (by decide +kernel) (by decide +kernel)
theorem wm_755 : Cond.selects nR_MOD nN_MOD_start nN_MOD_start ∈ lw_ws := lw_m (i := 755) (by decide +kernel) (by decide +kernel)
set_option maxRecDepth 100000 in
theorem wm_756 : Cond.code nN_MOD_start nC_MOD_start 2 (some .boolean) ∈ lw_ws := lw_m (i := 756) rfl (by decide +kernel)
theorem wm_757 : Cond.methodLink nR_LAW 69 nN_MOD_set ∈ lw_ws := lw_m (i := 757) (by decide +kernel) (by decide +kernel)
theorem wm_758 : Cond.instanceMethod nN_MOD_set ∈ lw_ws := lw_m (i := 758) (by decide +kernel) (by decide +kernel)
theorem wm_759 : Cond.selects nR_MOD nN_MOD_set nN_MOD_set ∈ lw_ws := lw_m (i := 759) (by decide +kernel) (by decide +kernel)
set_option maxRecDepth 100000 in
theorem wm_760 : Cond.code nN_MOD_set nC_MOD_set 3 (some .boolean) ∈ lw_ws := lw_m (i := 760) rfl (by decide +kernel)
theorem wm_761 : Cond.methodLink nR_LAW 72 nN_MOD_store ∈ lw_ws := lw_m (i := 761) (by decide +kernel) (by decide +kernel)
theorem wm_762 : Cond.instanceMethod nN_MOD_store ∈ lw_ws := lw_m (i := 762) (by decide +kernel) (by decide +kernel)
theorem wm_763 : Cond.selects nR_MOD nN_MOD_store nN_MOD_store ∈ lw_ws := lw_m (i := 763) (by decide +kernel) (by decide +kernel)
set_option maxRecDepth 100000 in
theorem wm_764 : Cond.code nN_MOD_store nC_MOD_store 3 (some .boolean) ∈ lw_ws := lw_m (i := 764) rfl (by decide +kernel)
theorem wm_768 : Cond.methodLink nR_LAW 65 nN_MOD_run ∈ lw_ws := lw_m (i := 768) (by decide +kernel) (by decide +kernel)
theorem wm_769 : Cond.instanceMethod nN_MOD_run ∈ lw_ws := lw_m (i := 769) (by decide +kernel) (by decide +kernel)
theorem wm_770 : Cond.selects nR_MOD nN_MOD_run nN_MOD_run ∈ lw_ws := lw_m (i := 770) (by decide +kernel) (by decide +kernel)
set_option maxRecDepth 100000 in
theorem wm_771 : Cond.code nN_MOD_run nC_MOD_run 3 (some .int) ∈ lw_ws := lw_m (i := 771) rfl (by decide +kernel)
theorem wm_827 : Cond.methodLink nR_LAW 83 nN_MOD_floating ∈ lw_ws := lw_m (i := 827) (by decide +kernel) (by decide +kernel)
theorem wm_828 : Cond.instanceMethod nN_MOD_floating ∈ lw_ws := lw_m (i := 828) (by decide +kernel) (by decide +kernel)
theorem wm_829 : Cond.selects nR_MOD nN_MOD_floating nN_MOD_floating ∈ lw_ws := lw_m (i := 829) (by decide +kernel) (by decide +kernel)
set_option maxRecDepth 100000 in
theorem wm_830 : Cond.code nN_MOD_floating nC_MOD_floating 2 (some .int) ∈ lw_ws := lw_m (i := 830) rfl (by decide +kernel)
theorem wm_831 : Cond.methodLink nR_LAW 87 nN_MOD_general ∈ lw_ws := lw_m (i := 831) (by decide +kernel) (by decide +kernel)
theorem wm_832 : Cond.instanceMethod nN_MOD_general ∈ lw_ws := lw_m (i := 832) (by decide +kernel) (by decide +kernel)
theorem wm_833 : Cond.selects nR_MOD nN_MOD_general nN_MOD_general ∈ lw_ws := lw_m (i := 833) (by decide +kernel) (by decide +kernel)
set_option maxRecDepth 100000 in
theorem wm_834 : Cond.code nN_MOD_general nC_MOD_general 2 (some .int) ∈ lw_ws := lw_m (i := 834) rfl (by decide +kernel)
theorem wm_835 : Cond.methodLink nR_LAW 91 nN_MOD_word ∈ lw_ws := lw_m (i := 835) (by decide +kernel) (by decide +kernel)
theorem wm_836 : Cond.instanceMethod nN_MOD_word ∈ lw_ws := lw_m (i := 836) (by decide +kernel) (by decide +kernel)
theorem wm_837 : Cond.selects nR_MOD nN_MOD_word nN_MOD_word ∈ lw_ws := lw_m (i := 837) (by decide +kernel) (by decide +kernel)
set_option maxRecDepth 100000 in
theorem wm_838 : Cond.code nN_MOD_word nC_MOD_word 2 (some .int) ∈ lw_ws := lw_m (i := 838) rfl (by decide +kernel)
theorem wm_839 : Cond.methodLink nR_LAW 95 nN_MOD_tag ∈ lw_ws := lw_m (i := 839) (by decide +kernel) (by decide +kernel)
theorem wm_840 : Cond.instanceMethod nN_MOD_tag ∈ lw_ws := lw_m (i := 840) (by decide +kernel) (by decide +kernel)
theorem wm_841 : Cond.selects nR_MOD nN_MOD_tag nN_MOD_tag ∈ lw_ws := lw_m (i := 841) (by decide +kernel) (by decide +kernel)
set_option maxRecDepth 100000 in
theorem wm_842 : Cond.code nN_MOD_tag nC_MOD_tag 2 (some .int) ∈ lw_ws := lw_m (i := 842) rfl (by decide +kernel)
theorem wm_843 : Cond.methodLink nR_LAW 99 nN_MOD_place ∈ lw_ws := lw_m (i := 843) (by decide +kernel) (by decide +kernel)
theorem wm_844 : Cond.instanceMethod nN_MOD_place ∈ lw_ws := lw_m (i := 844) (by decide +kernel) (by decide +kernel)
theorem wm_845 : Cond.selects nR_MOD nN_MOD_place nN_MOD_place ∈ lw_ws := lw_m (i := 845) (by decide +kernel) (by decide +kernel)
set_option maxRecDepth 100000 in
theorem wm_846 : Cond.code nN_MOD_place nC_MOD_place 2 (some .int) ∈ lw_ws := lw_m (i := 846) rfl (by decide +kernel)
theorem wm_847 : Cond.methodLink nR_LAW 103 nN_MOD_about ∈ lw_ws := lw_m (i := 847) (by decide +kernel) (by decide +kernel)
theorem wm_848 : Cond.instanceMethod nN_MOD_about ∈ lw_ws := lw_m (i := 848) (by decide +kernel) (by decide +kernel)
theorem wm_849 : Cond.selects nR_MOD nN_MOD_about nN_MOD_about ∈ lw_ws := lw_m (i := 849) (by decide +kernel) (by decide +kernel)
set_option maxRecDepth 100000 in
theorem wm_850 : Cond.code nN_MOD_about nC_MOD_about 2 (some .int) ∈ lw_ws := lw_m (i := 850) rfl (by decide +kernel)
theorem wc_LAW_100 : GoodIn lw_ws (wsV nR_LAW 100 (nN_TM_about).cls nN_TM_about (.code nN_TM_about nC_TM_about 2 (some .int) :: lw_ws)) := gs_V wm_254 wm_255 wm_256 wm_49 wm_257
theorem wc_LAW_103 : GoodIn lw_ws (wsV nR_LAW 103 (nN_MOD_about).cls nN_MOD_about (.code nN_MOD_about nC_MOD_about 2 (some .int) :: lw_ws)) := gs_V wm_847 wm_848 wm_849 wm_55 wm_850
theorem wc_LAW_51 : GoodIn lw_ws (va_wsS nR_LAW 51 nN_LAW_put (.codeWith nN_LAW_put nC_LAW_put 8 (some .int) [(0, 16, 19, 13), (0, 16, 23, 15)] :: lw_ws)) := gs_W wm_261 wm_262 wm_48 wm_263
theorem wc_LAW_54 : GoodIn lw_ws (wsV nR_LAW 54 (nN_MOD_put).cls nN_MOD_put (.code nN_MOD_put nC_MOD_put 7 (some .int) :: lw_ws)) := gs_V wm_742 wm_743 wm_744 wm_55 wm_745
theorem wc_LAW_55 : GoodIn lw_ws (wsV nR_LAW 55 (nN_MOD_thrown).cls nN_MOD_thrown (.code nN_MOD_thrown nC_MOD_thrown 1 (some .int) :: lw_ws)) := gs_V wm_677 wm_678 wm_679 wm_55 wm_680
theorem wc_LAW_59 : GoodIn lw_ws (va_wsS nR_LAW 59 nN_LAW_start (.codeWith nN_LAW_start nC_LAW_start 4 (some .int) [(0, 16, 19, 13), (0, 16, 22, 15)] :: lw_ws)) := gs_W wm_355 wm_356 wm_48 wm_357
theorem wc_LAW_62 : GoodIn lw_ws (wsV nR_LAW 62 (nN_MOD_start).cls nN_MOD_start (.code nN_MOD_start nC_MOD_start 2 (some .boolean) :: lw_ws)) := gs_V wm_753 wm_754 wm_755 wm_55 wm_756
theorem wc_LAW_63 : GoodIn lw_ws (va_wsS nR_LAW 63 nN_LAW_run (.codeWith nN_LAW_run nC_LAW_run 4 (some .int) [(0, 9, 12, 13), (0, 9, 15, 15)] :: lw_ws)) := gs_W wm_366 wm_367 wm_48 wm_368
theorem wc_LAW_65 : GoodIn lw_ws (wsV nR_LAW 65 (nN_MOD_run).cls nN_MOD_run (.code nN_MOD_run nC_MOD_run 3 (some .int) :: lw_ws)) := gs_V wm_768 wm_769 wm_770 wm_55 wm_771
theorem wc_LAW_66 : GoodIn lw_ws (va_wsS nR_LAW 66 nN_LAW_set (.codeWith nN_LAW_set nC_LAW_set 5 (some .int) [(0, 17, 20, 13), (0, 17, 24, 15)] :: lw_ws)) := gs_W wm_548 wm_549 wm_48 wm_550
theorem wc_LAW_69 : GoodIn lw_ws (wsV nR_LAW 69 (nN_MOD_set).cls nN_MOD_set (.code nN_MOD_set nC_MOD_set 3 (some .boolean) :: lw_ws)) := gs_V wm_757 wm_758 wm_759 wm_55 wm_760
theorem wc_LAW_70 : GoodIn lw_ws (va_wsS nR_LAW 70 nN_LAW_store (.codeWith nN_LAW_store nC_LAW_store 5 (some .int) [(0, 17, 20, 13), (0, 17, 24, 15)] :: lw_ws)) := gs_W wm_556 wm_557 wm_48 wm_558
theorem wc_LAW_72 : GoodIn lw_ws (wsV nR_LAW 72 (nN_MOD_store).cls nN_MOD_store (.code nN_MOD_store nC_MOD_store 3 (some .boolean) :: lw_ws)) := gs_V wm_761 wm_762 wm_763 wm_55 wm_764
theorem wc_LAW_73 : GoodIn lw_ws (va_wsS nR_LAW 73 nN_LAW_reckon (.codeWith nN_LAW_reckon nC_LAW_reckon 6 (some .int) [(0, 12, 15, 13)] :: lw_ws)) := gs_W wm_563 wm_564 wm_48 wm_565
theorem wc_LAW_76 : GoodIn lw_ws (wsV nR_LAW 76 (nN_MOD_reckon).cls nN_MOD_reckon (.code nN_MOD_reckon nC_MOD_reckon 4 (some .int) :: lw_ws)) := gs_V wm_681 wm_682 wm_683 wm_55 wm_684
theorem wc_LAW_77 : GoodIn lw_ws (va_wsS nR_LAW 77 nN_LAW_exceptions (.codeWith nN_LAW_exceptions nC_LAW_exceptions 6 (some .int) [(0, 12, 15, 13)] :: lw_ws)) := gs_W wm_573 wm_574 wm_48 wm_575
theorem wc_LAW_79 : GoodIn lw_ws (wsV nR_LAW 79 (nN_MOD_exceptions).cls nN_MOD_exceptions (.code nN_MOD_exceptions nC_MOD_exceptions 5 (some .int) :: lw_ws)) := gs_V wm_738 wm_739 wm_740 wm_55 wm_741
theorem wc_LAW_80 : GoodIn lw_ws (wsV nR_LAW 80 (nN_TM_floating).cls nN_TM_floating (.code nN_TM_floating nC_TM_floating 2 (some .int) :: lw_ws)) := gs_V wm_228 wm_229 wm_230 wm_49 wm_231
theorem wc_LAW_83 : GoodIn lw_ws (wsV nR_LAW 83 (nN_MOD_floating).cls nN_MOD_floating (.code nN_MOD_floating nC_MOD_floating 2 (some .int) :: lw_ws)) := gs_V wm_827 wm_828 wm_829 wm_55 wm_830
theorem wc_LAW_84 : GoodIn lw_ws (wsV nR_LAW 84 (nN_TM_general).cls nN_TM_general (.code nN_TM_general nC_TM_general 2 (some .int) :: lw_ws)) := gs_V wm_235 wm_236 wm_237 wm_49 wm_238
theorem wc_LAW_87 : GoodIn lw_ws (wsV nR_LAW 87 (nN_MOD_general).cls nN_MOD_general (.code nN_MOD_general nC_MOD_general 2 (some .int) :: lw_ws)) := gs_V wm_831 wm_832 wm_833 wm_55 wm_834
theorem wc_LAW_88 : GoodIn lw_ws (wsV nR_LAW 88 (nN_TM_word).cls nN_TM_word (.code nN_TM_word nC_TM_word 2 (some .int) :: lw_ws)) := gs_V wm_239 wm_240 wm_241 wm_49 wm_242
theorem wc_LAW_91 : GoodIn lw_ws (wsV nR_LAW 91 (nN_MOD_word).cls nN_MOD_word (.code nN_MOD_word nC_MOD_word 2 (some .int) :: lw_ws)) := gs_V wm_835 wm_836 wm_837 wm_55 wm_838
theorem wc_LAW_92 : GoodIn lw_ws (wsV nR_LAW 92 (nN_TM_tag).cls nN_TM_tag (.code nN_TM_tag nC_TM_tag 2 (some .int) :: lw_ws)) := gs_V wm_246 wm_247 wm_248 wm_49 wm_249
theorem wc_LAW_95 : GoodIn lw_ws (wsV nR_LAW 95 (nN_MOD_tag).cls nN_MOD_tag (.code nN_MOD_tag nC_MOD_tag 2 (some .int) :: lw_ws)) := gs_V wm_839 wm_840 wm_841 wm_55 wm_842
theorem wc_LAW_96 : GoodIn lw_ws (wsV nR_LAW 96 (nN_TM_place).cls nN_TM_place (.code nN_TM_place nC_TM_place 2 (some .int) :: lw_ws)) := gs_V wm_250 wm_251 wm_252 wm_49 wm_253
theorem wc_LAW_99 : GoodIn lw_ws (wsV nR_LAW 99 (nN_MOD_place).cls nN_MOD_place (.code nN_MOD_place nC_MOD_place 2 (some .int) :: lw_ws)) := gs_V wm_843 wm_844 wm_845 wm_55 wm_846
def fb_LAW_law_811 (L : Nat) (xs : Nat → Int32) (kL : Int32 → sg_T → Option Nat) (a4 : Int32) (σ : sg_T) : Option Nat := kL (a4 + (6 : Int32)) σ
def fb_LAW_law_229 (L : Nat) (xs : Nat → Int32) (kL : Int32 → sg_T → Option Nat) (a4 : Int32) (σ : sg_T) : Option Nat := fb_LAW_law_811 L xs kL a4 σ
def fb_LAW_law_292 (L : Nat) (xs : Nat → Int32) (kL : Int32 → sg_T → Option Nat) (a4 : Int32) (σ : sg_T) : Option Nat := fb_LAW_law_811 L xs kL a4 σ
def fb_LAW_law_286 (L : Nat) (xs : Nat → Int32) (kL : Int32 → sg_T → Option Nat) (a4 : Int32) (t0 : Int64) (t1 : Int64) (σ : sg_T) : Option Nat := if (lg_cmp t1 t0) = 0 then fb_LAW_law_292 L xs kL a4 σ else none
def fb_LAW_law_348 (L : Nat) (xs : Nat → Int32) (kL : Int32 → sg_T → Option Nat) (a4 : Int32) (σ : sg_T) : Option Nat := fb_LAW_law_811 L xs kL a4 σ
def fb_LAW_law_423 (L : Nat) (xs : Nat → Int32) (kL : Int32 → sg_T → Option Nat) (a4 : Int32) (σ : sg_T) : Option Nat := fb_LAW_law_811 L xs kL a4 σ
def fb_LAW_law_417 (L : Nat) (xs : Nat → Int32) (kL : Int32 → sg_T → Option Nat) (a4 : Int32) (t0 : Int64) (t1 : Int64) (σ : sg_T) : Option Nat := if (lg_cmp t1 t0) = 0 then fb_LAW_law_423 L xs kL a4 σ else none
def fb_LAW_law_498 (L : Nat) (xs : Nat → Int32) (kL : Int32 → sg_T → Option Nat) (a4 : Int32) (σ : sg_T) : Option Nat := fb_LAW_law_811 L xs kL a4 σ
def fb_LAW_law_492 (L : Nat) (xs : Nat → Int32) (kL : Int32 → sg_T → Option Nat) (a4 : Int32) (t0 : Int64) (t1 : Int64) (σ : sg_T) : Option Nat := if (lg_cmp t1 t0) = 0 then fb_LAW_law_498 L xs kL a4 σ else none
def fb_LAW_law_578 (L : Nat) (xs : Nat → Int32) (kL : Int32 → sg_T → Option Nat) (a4 : Int32) (σ : sg_T) : Option Nat := fb_LAW_law_811 L xs kL a4 σ
def fb_LAW_law_658 (L : Nat) (xs : Nat → Int32) (kL : Int32 → sg_T → Option Nat) (a4 : Int32) (σ : sg_T) : Option Nat := fb_LAW_law_811 L xs kL a4 σ
def fb_LAW_law_43 (L : Nat) (xs : Nat → Int32) : Nat → Int32 → sg_T → Option Nat
  | 0, _, _ => none
  | n + 1, a4, σ => if ((nI L) - (6 : Int32)) < a4 then some 1 else gt_d (ib_I a4 L) (if ((xs (tn_I a4)) &&& (15 : Int32)) = 0 then gt_d (ib_I (a4 + (1 : Int32)) L) (gt_d (ib_I (a4 + (2 : Int32)) L) (gt_d (ib_I (a4 + (3 : Int32)) L) (gt_d (ib_I (a4 + (4 : Int32)) L) (gt_d (ib_I (a4 + (5 : Int32)) L) ((fn_LAW_put (xs (tn_I (a4 + (1 : Int32)))) (xs (tn_I (a4 + (2 : Int32)))) (xs (tn_I (a4 + (3 : Int32)))) (xs (tn_I (a4 + (4 : Int32)))) (xs (tn_I (a4 + (5 : Int32)))) σ).bind (fun z9 => gt_d (ib_I (a4 + (1 : Int32)) L) (gt_d (ib_I (a4 + (2 : Int32)) L) (gt_d (ib_I (a4 + (3 : Int32)) L) (gt_d (ib_I (a4 + (4 : Int32)) L) (gt_d (ib_I (a4 + (5 : Int32)) L) ((fn_MOD_put (xs (tn_I (a4 + (1 : Int32)))) (xs (tn_I (a4 + (2 : Int32)))) (xs (tn_I (a4 + (3 : Int32)))) (xs (tn_I (a4 + (4 : Int32)))) (xs (tn_I (a4 + (5 : Int32)))) z9.2).bind (fun z15 => (fn_MOD_thrown  z15.2).bind (fun z16 => if z16.1 = z9.1 then if z9.1 = 0 then gt_d (ib_I (0 : Int32) 1) (if (lg_cmp ((z16.2 51 0).toInt64) z15.1.toInt64) = 0 then fb_LAW_law_229 L xs (fb_LAW_law_43 L xs n) a4 z16.2 else none) else fb_LAW_law_229 L xs (fb_LAW_law_43 L xs n) a4 z16.2 else none))))))))))))) else if ((xs (tn_I a4)) &&& (15 : Int32)) = 1 then gt_d (ib_I (a4 + (1 : Int32)) L) ((fn_LAW_start (xs (tn_I (a4 + (1 : Int32)))) σ).bind (fun z23 => gt_d (ib_I (a4 + (1 : Int32)) L) ((fn_MOD_start (xs (tn_I (a4 + (1 : Int32)))) z23.2).bind (fun z25 => (fn_MOD_thrown  z25.2).bind (fun z26 => if z26.1 = z23.1 then if z23.1 = 0 then gt_d (ib_I (0 : Int32) 1) (if z25.1 = 0 then fb_LAW_law_286 L xs (fb_LAW_law_43 L xs n) a4 (0 : Int64) ((z26.2 51 0).toInt64) z26.2 else fb_LAW_law_286 L xs (fb_LAW_law_43 L xs n) a4 (1 : Int64) ((z26.2 51 0).toInt64) z26.2) else fb_LAW_law_292 L xs (fb_LAW_law_43 L xs n) a4 z26.2 else none))))) else if ((xs (tn_I a4)) &&& (15 : Int32)) = 2 then gt_d (ib_I (a4 + (1 : Int32)) L) ((fn_LAW_run (xs (tn_I (a4 + (1 : Int32)))) σ).bind (fun z34 => gt_d (ib_I (a4 + (1 : Int32)) L) ((fn_MOD_run (xs (tn_I (a4 + (1 : Int32)))) z34.2).bind (fun z36 => (fn_MOD_thrown  z36.2).bind (fun z37 => if z37.1 = z34.1 then if z34.1 = 0 then gt_d (ib_I (0 : Int32) 1) (if (lg_cmp ((z37.2 51 0).toInt64) z36.1.toInt64) = 0 then fb_LAW_law_348 L xs (fb_LAW_law_43 L xs n) a4 z37.2 else none) else fb_LAW_law_348 L xs (fb_LAW_law_43 L xs n) a4 z37.2 else none))))) else if ((xs (tn_I a4)) &&& (15 : Int32)) = 3 then gt_d (ib_I (a4 + (1 : Int32)) L) (gt_d (ib_I (a4 + (2 : Int32)) L) ((fn_LAW_set (xs (tn_I (a4 + (1 : Int32)))) (xs (tn_I (a4 + (2 : Int32)))) σ).bind (fun z45 => gt_d (ib_I (a4 + (1 : Int32)) L) (gt_d (ib_I (a4 + (2 : Int32)) L) ((fn_MOD_set (xs (tn_I (a4 + (1 : Int32)))) (xs (tn_I (a4 + (2 : Int32)))) z45.2).bind (fun z48 => (fn_MOD_thrown  z48.2).bind (fun z49 => if z49.1 = z45.1 then if z45.1 = 0 then gt_d (ib_I (0 : Int32) 1) (if z48.1 = 0 then fb_LAW_law_417 L xs (fb_LAW_law_43 L xs n) a4 (0 : Int64) ((z49.2 51 0).toInt64) z49.2 else fb_LAW_law_417 L xs (fb_LAW_law_43 L xs n) a4 (1 : Int64) ((z49.2 51 0).toInt64) z49.2) else fb_LAW_law_423 L xs (fb_LAW_law_43 L xs n) a4 z49.2 else none))))))) else if ((xs (tn_I a4)) &&& (15 : Int32)) = 4 then gt_d (ib_I (a4 + (1 : Int32)) L) (gt_d (ib_I (a4 + (2 : Int32)) L) ((fn_LAW_store (xs (tn_I (a4 + (1 : Int32)))) (xs (tn_I (a4 + (2 : Int32)))) σ).bind (fun z58 => gt_d (ib_I (a4 + (1 : Int32)) L) (gt_d (ib_I (a4 + (2 : Int32)) L) ((fn_MOD_store (xs (tn_I (a4 + (1 : Int32)))) (xs (tn_I (a4 + (2 : Int32)))) z58.2).bind (fun z61 => (fn_MOD_thrown  z61.2).bind (fun z62 => if z62.1 = z58.1 then if z58.1 = 0 then gt_d (ib_I (0 : Int32) 1) (if z61.1 = 0 then fb_LAW_law_492 L xs (fb_LAW_law_43 L xs n) a4 (0 : Int64) ((z62.2 51 0).toInt64) z62.2 else fb_LAW_law_492 L xs (fb_LAW_law_43 L xs n) a4 (1 : Int64) ((z62.2 51 0).toInt64) z62.2) else fb_LAW_law_498 L xs (fb_LAW_law_43 L xs n) a4 z62.2 else none))))))) else if ((xs (tn_I a4)) &&& (15 : Int32)) = 5 then gt_d (ib_I (a4 + (1 : Int32)) L) (gt_d (ib_I (a4 + (2 : Int32)) L) (gt_d (ib_I (a4 + (3 : Int32)) L) ((fn_LAW_reckon (xs (tn_I (a4 + (1 : Int32)))) (xs (tn_I (a4 + (2 : Int32)))) (xs (tn_I (a4 + (3 : Int32)))) σ).bind (fun z72 => gt_d (ib_I (a4 + (1 : Int32)) L) (gt_d (ib_I (a4 + (2 : Int32)) L) (gt_d (ib_I (a4 + (3 : Int32)) L) ((fn_MOD_reckon (xs (tn_I (a4 + (1 : Int32)))) (xs (tn_I (a4 + (2 : Int32)))) (xs (tn_I (a4 + (3 : Int32)))) z72.2).bind (fun z76 => (fn_MOD_thrown  z76.2).bind (fun z77 => if z77.1 = z72.1 then if z72.1 = 0 then gt_d (ib_I (0 : Int32) 1) (if (lg_cmp ((z77.2 51 0).toInt64) z76.1.toInt64) = 0 then fb_LAW_law_578 L xs (fb_LAW_law_43 L xs n) a4 z77.2 else none) else fb_LAW_law_578 L xs (fb_LAW_law_43 L xs n) a4 z77.2 else none))))))))) else if ((xs (tn_I a4)) &&& (15 : Int32)) = 6 then gt_d (ib_I (a4 + (1 : Int32)) L) (gt_d (ib_I (a4 + (2 : Int32)) L) (gt_d (ib_I (a4 + (3 : Int32)) L) ((fn_LAW_exceptions (xs (tn_I (a4 + (1 : Int32)))) (xs (tn_I (a4 + (2 : Int32)))) (xs (tn_I (a4 + (3 : Int32)))) σ).bind (fun z86 => gt_d (ib_I (a4 + (1 : Int32)) L) (gt_d (ib_I (a4 + (2 : Int32)) L) (gt_d (ib_I (a4 + (3 : Int32)) L) ((fn_MOD_exceptions (xs (tn_I (a4 + (1 : Int32)))) (xs (tn_I (a4 + (2 : Int32)))) (xs (tn_I (a4 + (3 : Int32)))) z86.2).bind (fun z90 => (fn_MOD_thrown  z90.2).bind (fun z91 => if z91.1 = z86.1 then if z86.1 = 0 then gt_d (ib_I (0 : Int32) 1) (if (lg_cmp ((z91.2 51 0).toInt64) z90.1.toInt64) = 0 then fb_LAW_law_658 L xs (fb_LAW_law_43 L xs n) a4 z91.2 else none) else fb_LAW_law_658 L xs (fb_LAW_law_43 L xs n) a4 z91.2 else none))))))))) else if ((xs (tn_I a4)) &&& (15 : Int32)) = 7 then gt_d (ib_I (a4 + (1 : Int32)) L) ((fn_TM_floating (xs (tn_I (a4 + (1 : Int32)))) σ).bind (fun z98 => gt_d (ib_I (a4 + (1 : Int32)) L) ((fn_MOD_floating (xs (tn_I (a4 + (1 : Int32)))) z98.2).bind (fun z100 => if z98.1 = z100.1 then fb_LAW_law_811 L xs (fb_LAW_law_43 L xs n) a4 z100.2 else none)))) else if ((xs (tn_I a4)) &&& (15 : Int32)) = 8 then gt_d (ib_I (a4 + (1 : Int32)) L) ((fn_TM_general (xs (tn_I (a4 + (1 : Int32)))) σ).bind (fun z104 => gt_d (ib_I (a4 + (1 : Int32)) L) ((fn_MOD_general (xs (tn_I (a4 + (1 : Int32)))) z104.2).bind (fun z106 => if z104.1 = z106.1 then fb_LAW_law_811 L xs (fb_LAW_law_43 L xs n) a4 z106.2 else none)))) else if ((xs (tn_I a4)) &&& (15 : Int32)) = 9 then gt_d (ib_I (a4 + (1 : Int32)) L) ((fn_TM_word (xs (tn_I (a4 + (1 : Int32)))) σ).bind (fun z110 => gt_d (ib_I (a4 + (1 : Int32)) L) ((fn_MOD_word (xs (tn_I (a4 + (1 : Int32)))) z110.2).bind (fun z112 => if z110.1 = z112.1 then fb_LAW_law_811 L xs (fb_LAW_law_43 L xs n) a4 z112.2 else none)))) else if ((xs (tn_I a4)) &&& (15 : Int32)) = 10 then gt_d (ib_I (a4 + (1 : Int32)) L) ((fn_TM_tag (xs (tn_I (a4 + (1 : Int32)))) σ).bind (fun z116 => gt_d (ib_I (a4 + (1 : Int32)) L) ((fn_MOD_tag (xs (tn_I (a4 + (1 : Int32)))) z116.2).bind (fun z118 => if z116.1 = z118.1 then fb_LAW_law_811 L xs (fb_LAW_law_43 L xs n) a4 z118.2 else none)))) else if ((xs (tn_I a4)) &&& (15 : Int32)) = 11 then gt_d (ib_I (a4 + (1 : Int32)) L) ((fn_TM_place (xs (tn_I (a4 + (1 : Int32)))) σ).bind (fun z122 => gt_d (ib_I (a4 + (1 : Int32)) L) ((fn_MOD_place (xs (tn_I (a4 + (1 : Int32)))) z122.2).bind (fun z124 => if z122.1 = z124.1 then fb_LAW_law_811 L xs (fb_LAW_law_43 L xs n) a4 z124.2 else none)))) else if ((xs (tn_I a4)) &&& (15 : Int32)) = 12 then gt_d (ib_I (a4 + (1 : Int32)) L) ((fn_TM_about (xs (tn_I (a4 + (1 : Int32)))) σ).bind (fun z128 => gt_d (ib_I (a4 + (1 : Int32)) L) ((fn_MOD_about (xs (tn_I (a4 + (1 : Int32)))) z128.2).bind (fun z130 => if z128.1 = z130.1 then fb_LAW_law_811 L xs (fb_LAW_law_43 L xs n) a4 z130.2 else none)))) else fb_LAW_law_811 L xs (fb_LAW_law_43 L xs n) a4 σ)
section LW
variable {p : Program} {l : Launch} {e : Env} {s : State} {m : MethodId} {below : List Frame} {meth : Method} {c : Code} {x : cx_T} {b L : Nat} {xs : Nat → Int32}
set_option maxRecDepth 100000 in
set_option maxHeartbeats 4000000 in
theorem bk_LAW_law_811 {z : Nat} (F : fx_F p s m #[Value.ref b] meth c nC_LAW_law 7 ret nR_LAW) (X9 : fx_X s x b L xs) (hl9 : l.stackTraces = false) (n : Nat) (kL : Int32 → sg_T → Option Nat) (ihL : ∀ (a4 : Int32) (σ : sg_T) (H : Heap) (locs : List Loc) (ls : Array Slot) (cells slots : Nat), cells + n ≤ 661366 → slots + 6 * n ≤ 7111972 → ww_P x s H locs σ → lv_has ls 7 [(0, .ref b), (1, .ref (x.2.2 0)), (2, .ref (x.2.2 82)), (3, .ref (x.2.2 102)), (4, .int a4)] → kL a4 σ = some z → W p l e room_1 s m #[Value.ref b] below meth c H locs cells slots (lw_Z below #[Value.ref b] s) (F0 m 43 ls [])) (a4 : Int32) {σ : sg_T} {H : Heap} {locs : List Loc} {ls : Array Slot} {cells slots : Nat} (hc1 : cells + n ≤ 661366) (hc2 : slots + 6 * n ≤ 7111972) (hw : ww_P x s H locs σ) (hl : lv_has ls 7 [(0, .ref b), (1, .ref (x.2.2 0)), (2, .ref (x.2.2 82)), (3, .ref (x.2.2 102)), (4, .int a4)]) (hf : fb_LAW_law_811 L xs kL a4 σ = some z) : W p l e room_1 s m #[Value.ref b] below meth c H locs cells slots (lw_Z below #[Value.ref b] s) (F0 m 811 ls []) := by
  have F9 := F
  obtain ⟨hx, hb, hml, hr, hlk, hown, hT⟩ := F
  unfold fb_LAW_law_811 at hf
  refine lv_iinc (k := 4) (v := a4 + (6 : Int32)) (lv' := [(4, .int (a4 + (6 : Int32))), (0, .ref b), (1, .ref (x.2.2 0)), (2, .ref (x.2.2 82)), (3, .ref (x.2.2 102))]) hx hb nD_LAW_law_811 hl rfl (ic_p6 _) (by decide) rfl (fun ls hl => ?_)
  refine lv_goto (tgt := 43) hx hb nD_LAW_law_814 (by decide) ?_
  exact ihL (a4 + (6 : Int32)) _ _ _ _ _ _ (by omega) (by omega) hw (lv_sub hl [1, 2, 3, 4, 0] rfl) hf
set_option maxRecDepth 100000 in
set_option maxHeartbeats 4000000 in
theorem bk_LAW_law_229 {z : Nat} (F : fx_F p s m #[Value.ref b] meth c nC_LAW_law 7 ret nR_LAW) (X9 : fx_X s x b L xs) (hl9 : l.stackTraces = false) (n : Nat) (kL : Int32 → sg_T → Option Nat) (ihL : ∀ (a4 : Int32) (σ : sg_T) (H : Heap) (locs : List Loc) (ls : Array Slot) (cells slots : Nat), cells + n ≤ 661366 → slots + 6 * n ≤ 7111972 → ww_P x s H locs σ → lv_has ls 7 [(0, .ref b), (1, .ref (x.2.2 0)), (2, .ref (x.2.2 82)), (3, .ref (x.2.2 102)), (4, .int a4)] → kL a4 σ = some z → W p l e room_1 s m #[Value.ref b] below meth c H locs cells slots (lw_Z below #[Value.ref b] s) (F0 m 43 ls [])) (a4 : Int32) {σ : sg_T} {H : Heap} {locs : List Loc} {ls : Array Slot} {cells slots : Nat} (hc1 : cells + n ≤ 661366) (hc2 : slots + 6 * n ≤ 7111972) (hw : ww_P x s H locs σ) (hl : lv_has ls 7 [(0, .ref b), (1, .ref (x.2.2 0)), (2, .ref (x.2.2 82)), (3, .ref (x.2.2 102)), (4, .int a4)]) (hf : fb_LAW_law_229 L xs kL a4 σ = some z) : W p l e room_1 s m #[Value.ref b] below meth c H locs cells slots (lw_Z below #[Value.ref b] s) (F0 m 229 ls []) := by
  have F9 := F
  obtain ⟨hx, hb, hml, hr, hlk, hown, hT⟩ := F
  unfold fb_LAW_law_229 at hf
  refine lv_goto (tgt := 811) hx hb nD_LAW_law_229 (by decide) ?_
  exact bk_LAW_law_811 F9 X9 hl9 n kL ihL a4 (by omega) (by omega) hw (lv_sub hl [0, 1, 2, 3, 4] rfl) hf
set_option maxRecDepth 100000 in
set_option maxHeartbeats 4000000 in
theorem bk_LAW_law_292 {z : Nat} (F : fx_F p s m #[Value.ref b] meth c nC_LAW_law 7 ret nR_LAW) (X9 : fx_X s x b L xs) (hl9 : l.stackTraces = false) (n : Nat) (kL : Int32 → sg_T → Option Nat) (ihL : ∀ (a4 : Int32) (σ : sg_T) (H : Heap) (locs : List Loc) (ls : Array Slot) (cells slots : Nat), cells + n ≤ 661366 → slots + 6 * n ≤ 7111972 → ww_P x s H locs σ → lv_has ls 7 [(0, .ref b), (1, .ref (x.2.2 0)), (2, .ref (x.2.2 82)), (3, .ref (x.2.2 102)), (4, .int a4)] → kL a4 σ = some z → W p l e room_1 s m #[Value.ref b] below meth c H locs cells slots (lw_Z below #[Value.ref b] s) (F0 m 43 ls [])) (a4 : Int32) {σ : sg_T} {H : Heap} {locs : List Loc} {ls : Array Slot} {cells slots : Nat} (hc1 : cells + n ≤ 661366) (hc2 : slots + 6 * n ≤ 7111972) (hw : ww_P x s H locs σ) (hl : lv_has ls 7 [(0, .ref b), (1, .ref (x.2.2 0)), (2, .ref (x.2.2 82)), (3, .ref (x.2.2 102)), (4, .int a4)]) (hf : fb_LAW_law_292 L xs kL a4 σ = some z) : W p l e room_1 s m #[Value.ref b] below meth c H locs cells slots (lw_Z below #[Value.ref b] s) (F0 m 292 ls []) := by
  have F9 := F
  obtain ⟨hx, hb, hml, hr, hlk, hown, hT⟩ := F
  unfold fb_LAW_law_292 at hf
  refine lv_goto (tgt := 811) hx hb nD_LAW_law_292 (by decide) ?_
  exact bk_LAW_law_811 F9 X9 hl9 n kL ihL a4 (by omega) (by omega) hw (lv_sub hl [0, 1, 2, 3, 4] rfl) hf
set_option maxRecDepth 100000 in
set_option maxHeartbeats 4000000 in
theorem bk_LAW_law_286 {z : Nat} (F : fx_F p s m #[Value.ref b] meth c nC_LAW_law 7 ret nR_LAW) (X9 : fx_X s x b L xs) (hl9 : l.stackTraces = false) (n : Nat) (kL : Int32 → sg_T → Option Nat) (ihL : ∀ (a4 : Int32) (σ : sg_T) (H : Heap) (locs : List Loc) (ls : Array Slot) (cells slots : Nat), cells + n ≤ 661366 → slots + 6 * n ≤ 7111972 → ww_P x s H locs σ → lv_has ls 7 [(0, .ref b), (1, .ref (x.2.2 0)), (2, .ref (x.2.2 82)), (3, .ref (x.2.2 102)), (4, .int a4)] → kL a4 σ = some z → W p l e room_1 s m #[Value.ref b] below meth c H locs cells slots (lw_Z below #[Value.ref b] s) (F0 m 43 ls [])) (a4 : Int32) (t0 : Int64) (t1 : Int64) {σ : sg_T} {H : Heap} {locs : List Loc} {ls : Array Slot} {cells slots : Nat} (hc1 : cells + n ≤ 661366) (hc2 : slots + 6 * n ≤ 7111972) (hw : ww_P x s H locs σ) (hl : lv_has ls 7 [(0, .ref b), (1, .ref (x.2.2 0)), (2, .ref (x.2.2 82)), (3, .ref (x.2.2 102)), (4, .int a4)]) (hf : fb_LAW_law_286 L xs kL a4 t0 t1 σ = some z) : W p l e room_1 s m #[Value.ref b] below meth c H locs cells slots (lw_Z below #[Value.ref b] s) (F0 m 286 ls [.long t0, .long t1]) := by
  have F9 := F
  obtain ⟨hx, hb, hml, hr, hlk, hown, hT⟩ := F
  unfold fb_LAW_law_286 at hf
  refine W.lcmp hx hb nD_LAW_law_286 ?_
  refine lv_if_eq (tgt := 292) hx hb nD_LAW_law_287 (by decide) (fun h31 => ?_) (fun h31 => ?_)
  · rw [if_pos h31] at hf
    exact bk_LAW_law_292 F9 X9 hl9 n kL ihL a4 (by omega) (by omega) hw (lv_sub hl [0, 1, 2, 3, 4] rfl) hf
  · rw [if_neg h31] at hf
    refine lv_iconst (v := 0) hx hb nD_LAW_law_290 (by decide) ?_
    cases hf
set_option maxRecDepth 100000 in
set_option maxHeartbeats 4000000 in
theorem bk_LAW_law_348 {z : Nat} (F : fx_F p s m #[Value.ref b] meth c nC_LAW_law 7 ret nR_LAW) (X9 : fx_X s x b L xs) (hl9 : l.stackTraces = false) (n : Nat) (kL : Int32 → sg_T → Option Nat) (ihL : ∀ (a4 : Int32) (σ : sg_T) (H : Heap) (locs : List Loc) (ls : Array Slot) (cells slots : Nat), cells + n ≤ 661366 → slots + 6 * n ≤ 7111972 → ww_P x s H locs σ → lv_has ls 7 [(0, .ref b), (1, .ref (x.2.2 0)), (2, .ref (x.2.2 82)), (3, .ref (x.2.2 102)), (4, .int a4)] → kL a4 σ = some z → W p l e room_1 s m #[Value.ref b] below meth c H locs cells slots (lw_Z below #[Value.ref b] s) (F0 m 43 ls [])) (a4 : Int32) {σ : sg_T} {H : Heap} {locs : List Loc} {ls : Array Slot} {cells slots : Nat} (hc1 : cells + n ≤ 661366) (hc2 : slots + 6 * n ≤ 7111972) (hw : ww_P x s H locs σ) (hl : lv_has ls 7 [(0, .ref b), (1, .ref (x.2.2 0)), (2, .ref (x.2.2 82)), (3, .ref (x.2.2 102)), (4, .int a4)]) (hf : fb_LAW_law_348 L xs kL a4 σ = some z) : W p l e room_1 s m #[Value.ref b] below meth c H locs cells slots (lw_Z below #[Value.ref b] s) (F0 m 348 ls []) := by
  have F9 := F
  obtain ⟨hx, hb, hml, hr, hlk, hown, hT⟩ := F
  unfold fb_LAW_law_348 at hf
  refine lv_goto (tgt := 811) hx hb nD_LAW_law_348 (by decide) ?_
  exact bk_LAW_law_811 F9 X9 hl9 n kL ihL a4 (by omega) (by omega) hw (lv_sub hl [0, 1, 2, 3, 4] rfl) hf
set_option maxRecDepth 100000 in
set_option maxHeartbeats 4000000 in
theorem bk_LAW_law_423 {z : Nat} (F : fx_F p s m #[Value.ref b] meth c nC_LAW_law 7 ret nR_LAW) (X9 : fx_X s x b L xs) (hl9 : l.stackTraces = false) (n : Nat) (kL : Int32 → sg_T → Option Nat) (ihL : ∀ (a4 : Int32) (σ : sg_T) (H : Heap) (locs : List Loc) (ls : Array Slot) (cells slots : Nat), cells + n ≤ 661366 → slots + 6 * n ≤ 7111972 → ww_P x s H locs σ → lv_has ls 7 [(0, .ref b), (1, .ref (x.2.2 0)), (2, .ref (x.2.2 82)), (3, .ref (x.2.2 102)), (4, .int a4)] → kL a4 σ = some z → W p l e room_1 s m #[Value.ref b] below meth c H locs cells slots (lw_Z below #[Value.ref b] s) (F0 m 43 ls [])) (a4 : Int32) {σ : sg_T} {H : Heap} {locs : List Loc} {ls : Array Slot} {cells slots : Nat} (hc1 : cells + n ≤ 661366) (hc2 : slots + 6 * n ≤ 7111972) (hw : ww_P x s H locs σ) (hl : lv_has ls 7 [(0, .ref b), (1, .ref (x.2.2 0)), (2, .ref (x.2.2 82)), (3, .ref (x.2.2 102)), (4, .int a4)]) (hf : fb_LAW_law_423 L xs kL a4 σ = some z) : W p l e room_1 s m #[Value.ref b] below meth c H locs cells slots (lw_Z below #[Value.ref b] s) (F0 m 423 ls []) := by
  have F9 := F
  obtain ⟨hx, hb, hml, hr, hlk, hown, hT⟩ := F
  unfold fb_LAW_law_423 at hf
  refine lv_goto (tgt := 811) hx hb nD_LAW_law_423 (by decide) ?_
  exact bk_LAW_law_811 F9 X9 hl9 n kL ihL a4 (by omega) (by omega) hw (lv_sub hl [0, 1, 2, 3, 4] rfl) hf
set_option maxRecDepth 100000 in
set_option maxHeartbeats 4000000 in
theorem bk_LAW_law_417 {z : Nat} (F : fx_F p s m #[Value.ref b] meth c nC_LAW_law 7 ret nR_LAW) (X9 : fx_X s x b L xs) (hl9 : l.stackTraces = false) (n : Nat) (kL : Int32 → sg_T → Option Nat) (ihL : ∀ (a4 : Int32) (σ : sg_T) (H : Heap) (locs : List Loc) (ls : Array Slot) (cells slots : Nat), cells + n ≤ 661366 → slots + 6 * n ≤ 7111972 → ww_P x s H locs σ → lv_has ls 7 [(0, .ref b), (1, .ref (x.2.2 0)), (2, .ref (x.2.2 82)), (3, .ref (x.2.2 102)), (4, .int a4)] → kL a4 σ = some z → W p l e room_1 s m #[Value.ref b] below meth c H locs cells slots (lw_Z below #[Value.ref b] s) (F0 m 43 ls [])) (a4 : Int32) (t0 : Int64) (t1 : Int64) {σ : sg_T} {H : Heap} {locs : List Loc} {ls : Array Slot} {cells slots : Nat} (hc1 : cells + n ≤ 661366) (hc2 : slots + 6 * n ≤ 7111972) (hw : ww_P x s H locs σ) (hl : lv_has ls 7 [(0, .ref b), (1, .ref (x.2.2 0)), (2, .ref (x.2.2 82)), (3, .ref (x.2.2 102)), (4, .int a4)]) (hf : fb_LAW_law_417 L xs kL a4 t0 t1 σ = some z) : W p l e room_1 s m #[Value.ref b] below meth c H locs cells slots (lw_Z below #[Value.ref b] s) (F0 m 417 ls [.long t0, .long t1]) := by
  have F9 := F
  obtain ⟨hx, hb, hml, hr, hlk, hown, hT⟩ := F
  unfold fb_LAW_law_417 at hf
  refine W.lcmp hx hb nD_LAW_law_417 ?_
  refine lv_if_eq (tgt := 423) hx hb nD_LAW_law_418 (by decide) (fun h54 => ?_) (fun h54 => ?_)
  · rw [if_pos h54] at hf
    exact bk_LAW_law_423 F9 X9 hl9 n kL ihL a4 (by omega) (by omega) hw (lv_sub hl [0, 1, 2, 3, 4] rfl) hf
  · rw [if_neg h54] at hf
    refine lv_iconst (v := 0) hx hb nD_LAW_law_421 (by decide) ?_
    cases hf
set_option maxRecDepth 100000 in
set_option maxHeartbeats 4000000 in
theorem bk_LAW_law_498 {z : Nat} (F : fx_F p s m #[Value.ref b] meth c nC_LAW_law 7 ret nR_LAW) (X9 : fx_X s x b L xs) (hl9 : l.stackTraces = false) (n : Nat) (kL : Int32 → sg_T → Option Nat) (ihL : ∀ (a4 : Int32) (σ : sg_T) (H : Heap) (locs : List Loc) (ls : Array Slot) (cells slots : Nat), cells + n ≤ 661366 → slots + 6 * n ≤ 7111972 → ww_P x s H locs σ → lv_has ls 7 [(0, .ref b), (1, .ref (x.2.2 0)), (2, .ref (x.2.2 82)), (3, .ref (x.2.2 102)), (4, .int a4)] → kL a4 σ = some z → W p l e room_1 s m #[Value.ref b] below meth c H locs cells slots (lw_Z below #[Value.ref b] s) (F0 m 43 ls [])) (a4 : Int32) {σ : sg_T} {H : Heap} {locs : List Loc} {ls : Array Slot} {cells slots : Nat} (hc1 : cells + n ≤ 661366) (hc2 : slots + 6 * n ≤ 7111972) (hw : ww_P x s H locs σ) (hl : lv_has ls 7 [(0, .ref b), (1, .ref (x.2.2 0)), (2, .ref (x.2.2 82)), (3, .ref (x.2.2 102)), (4, .int a4)]) (hf : fb_LAW_law_498 L xs kL a4 σ = some z) : W p l e room_1 s m #[Value.ref b] below meth c H locs cells slots (lw_Z below #[Value.ref b] s) (F0 m 498 ls []) := by
  have F9 := F
  obtain ⟨hx, hb, hml, hr, hlk, hown, hT⟩ := F
  unfold fb_LAW_law_498 at hf
  refine lv_goto (tgt := 811) hx hb nD_LAW_law_498 (by decide) ?_
  exact bk_LAW_law_811 F9 X9 hl9 n kL ihL a4 (by omega) (by omega) hw (lv_sub hl [0, 1, 2, 3, 4] rfl) hf
set_option maxRecDepth 100000 in
set_option maxHeartbeats 4000000 in
theorem bk_LAW_law_492 {z : Nat} (F : fx_F p s m #[Value.ref b] meth c nC_LAW_law 7 ret nR_LAW) (X9 : fx_X s x b L xs) (hl9 : l.stackTraces = false) (n : Nat) (kL : Int32 → sg_T → Option Nat) (ihL : ∀ (a4 : Int32) (σ : sg_T) (H : Heap) (locs : List Loc) (ls : Array Slot) (cells slots : Nat), cells + n ≤ 661366 → slots + 6 * n ≤ 7111972 → ww_P x s H locs σ → lv_has ls 7 [(0, .ref b), (1, .ref (x.2.2 0)), (2, .ref (x.2.2 82)), (3, .ref (x.2.2 102)), (4, .int a4)] → kL a4 σ = some z → W p l e room_1 s m #[Value.ref b] below meth c H locs cells slots (lw_Z below #[Value.ref b] s) (F0 m 43 ls [])) (a4 : Int32) (t0 : Int64) (t1 : Int64) {σ : sg_T} {H : Heap} {locs : List Loc} {ls : Array Slot} {cells slots : Nat} (hc1 : cells + n ≤ 661366) (hc2 : slots + 6 * n ≤ 7111972) (hw : ww_P x s H locs σ) (hl : lv_has ls 7 [(0, .ref b), (1, .ref (x.2.2 0)), (2, .ref (x.2.2 82)), (3, .ref (x.2.2 102)), (4, .int a4)]) (hf : fb_LAW_law_492 L xs kL a4 t0 t1 σ = some z) : W p l e room_1 s m #[Value.ref b] below meth c H locs cells slots (lw_Z below #[Value.ref b] s) (F0 m 492 ls [.long t0, .long t1]) := by
  have F9 := F
  obtain ⟨hx, hb, hml, hr, hlk, hown, hT⟩ := F
  unfold fb_LAW_law_492 at hf
  refine W.lcmp hx hb nD_LAW_law_492 ?_
  refine lv_if_eq (tgt := 498) hx hb nD_LAW_law_493 (by decide) (fun h67 => ?_) (fun h67 => ?_)
  · rw [if_pos h67] at hf
    exact bk_LAW_law_498 F9 X9 hl9 n kL ihL a4 (by omega) (by omega) hw (lv_sub hl [0, 1, 2, 3, 4] rfl) hf
  · rw [if_neg h67] at hf
    refine lv_iconst (v := 0) hx hb nD_LAW_law_496 (by decide) ?_
    cases hf
set_option maxRecDepth 100000 in
set_option maxHeartbeats 4000000 in
theorem bk_LAW_law_578 {z : Nat} (F : fx_F p s m #[Value.ref b] meth c nC_LAW_law 7 ret nR_LAW) (X9 : fx_X s x b L xs) (hl9 : l.stackTraces = false) (n : Nat) (kL : Int32 → sg_T → Option Nat) (ihL : ∀ (a4 : Int32) (σ : sg_T) (H : Heap) (locs : List Loc) (ls : Array Slot) (cells slots : Nat), cells + n ≤ 661366 → slots + 6 * n ≤ 7111972 → ww_P x s H locs σ → lv_has ls 7 [(0, .ref b), (1, .ref (x.2.2 0)), (2, .ref (x.2.2 82)), (3, .ref (x.2.2 102)), (4, .int a4)] → kL a4 σ = some z → W p l e room_1 s m #[Value.ref b] below meth c H locs cells slots (lw_Z below #[Value.ref b] s) (F0 m 43 ls [])) (a4 : Int32) {σ : sg_T} {H : Heap} {locs : List Loc} {ls : Array Slot} {cells slots : Nat} (hc1 : cells + n ≤ 661366) (hc2 : slots + 6 * n ≤ 7111972) (hw : ww_P x s H locs σ) (hl : lv_has ls 7 [(0, .ref b), (1, .ref (x.2.2 0)), (2, .ref (x.2.2 82)), (3, .ref (x.2.2 102)), (4, .int a4)]) (hf : fb_LAW_law_578 L xs kL a4 σ = some z) : W p l e room_1 s m #[Value.ref b] below meth c H locs cells slots (lw_Z below #[Value.ref b] s) (F0 m 578 ls []) := by
  have F9 := F
  obtain ⟨hx, hb, hml, hr, hlk, hown, hT⟩ := F
  unfold fb_LAW_law_578 at hf
  refine lv_goto (tgt := 811) hx hb nD_LAW_law_578 (by decide) ?_
  exact bk_LAW_law_811 F9 X9 hl9 n kL ihL a4 (by omega) (by omega) hw (lv_sub hl [0, 1, 2, 3, 4] rfl) hf
set_option maxRecDepth 100000 in
set_option maxHeartbeats 4000000 in
theorem bk_LAW_law_658 {z : Nat} (F : fx_F p s m #[Value.ref b] meth c nC_LAW_law 7 ret nR_LAW) (X9 : fx_X s x b L xs) (hl9 : l.stackTraces = false) (n : Nat) (kL : Int32 → sg_T → Option Nat) (ihL : ∀ (a4 : Int32) (σ : sg_T) (H : Heap) (locs : List Loc) (ls : Array Slot) (cells slots : Nat), cells + n ≤ 661366 → slots + 6 * n ≤ 7111972 → ww_P x s H locs σ → lv_has ls 7 [(0, .ref b), (1, .ref (x.2.2 0)), (2, .ref (x.2.2 82)), (3, .ref (x.2.2 102)), (4, .int a4)] → kL a4 σ = some z → W p l e room_1 s m #[Value.ref b] below meth c H locs cells slots (lw_Z below #[Value.ref b] s) (F0 m 43 ls [])) (a4 : Int32) {σ : sg_T} {H : Heap} {locs : List Loc} {ls : Array Slot} {cells slots : Nat} (hc1 : cells + n ≤ 661366) (hc2 : slots + 6 * n ≤ 7111972) (hw : ww_P x s H locs σ) (hl : lv_has ls 7 [(0, .ref b), (1, .ref (x.2.2 0)), (2, .ref (x.2.2 82)), (3, .ref (x.2.2 102)), (4, .int a4)]) (hf : fb_LAW_law_658 L xs kL a4 σ = some z) : W p l e room_1 s m #[Value.ref b] below meth c H locs cells slots (lw_Z below #[Value.ref b] s) (F0 m 658 ls []) := by
  have F9 := F
  obtain ⟨hx, hb, hml, hr, hlk, hown, hT⟩ := F
  unfold fb_LAW_law_658 at hf
  refine lv_goto (tgt := 811) hx hb nD_LAW_law_658 (by decide) ?_
  exact bk_LAW_law_811 F9 X9 hl9 n kL ihL a4 (by omega) (by omega) hw (lv_sub hl [0, 1, 2, 3, 4] rfl) hf
set_option maxRecDepth 100000 in
set_option maxHeartbeats 4000000 in
theorem bk_LAW_law_43 {z : Nat} (F : fx_F p s m #[Value.ref b] meth c nC_LAW_law 7 ret nR_LAW) (X9 : fx_X s x b L xs) (hl9 : l.stackTraces = false) : ∀ (n : Nat) (a4 : Int32) (σ : sg_T) (H : Heap) (locs : List Loc) (ls : Array Slot) (cells slots : Nat), cells + n ≤ 661366 → slots + 6 * n ≤ 7111972 → ww_P x s H locs σ → lv_has ls 7 [(0, .ref b), (1, .ref (x.2.2 0)), (2, .ref (x.2.2 82)), (3, .ref (x.2.2 102)), (4, .int a4)] → fb_LAW_law_43 L xs n a4 σ = some z → W p l e room_1 s m #[Value.ref b] below meth c H locs cells slots (lw_Z below #[Value.ref b] s) (F0 m 43 ls []) := by
  have F9 := F
  obtain ⟨hx, hb, hml, hr, hlk, hown, hT⟩ := F
  intro n
  induction n with
  | zero =>
    intro a4 σ H locs ls cells slots hc1 hc2 hw hl hf
    simp [fb_LAW_law_43] at hf
  | succ n ih =>
    intro a4 σ H locs ls cells slots hc1 hc2 hw hl hf
    unfold fb_LAW_law_43 at hf
    refine lv_iload hx hb nD_LAW_law_43 (lv_at hl 4 rfl) ?_
    refine lv_aload_n hx hb nD_LAW_law_45 rfl (lv_at hl 0 rfl) ?_
    refine sl_n F9 X9 hw nD_LAW_law_46 ?_
    refine lv_bipush (v := 6) hx hb nD_LAW_law_47 (by decide) ?_
    refine lv_isub hx hb nD_LAW_law_49 ?_
    refine lv_icmp_gt (tgt := 817) hx hb nD_LAW_law_50 (by decide) (fun h1 => ?_) (fun h1 => ?_)
    · rw [if_pos h1] at hf
      refine lv_iconst (v := 1) hx hb nD_LAW_law_817 (by decide) ?_
      exact rt_law F9 X9 hw (by omega) (by omega) nD_LAW_law_818
    · rw [if_neg h1] at hf
      refine lv_aload_n hx hb nD_LAW_law_53 rfl (lv_at hl 0 rfl) ?_
      refine lv_iload hx hb nD_LAW_law_54 (lv_at hl 4 rfl) ?_
      obtain ⟨g2, hf⟩ := gt_of hf
      refine sl_d F9 X9 hw g2 nD_LAW_law_56 ?_
      refine lv_bipush (v := 15) hx hb nD_LAW_law_57 (by decide) ?_
      refine lv_iand hx hb nD_LAW_law_59 ?_
      by_cases h3 : ((xs (tn_I a4)) &&& (15 : Int32)) = (0 : Int32)
      · rw [if_pos h3] at hf
        refine sw_in (tgt := 128) (0) hx hb nD_LAW_law_60 h3 (by decide) (by decide) rfl (by decide) ?_
        refine lv_aload_n hx hb nD_LAW_law_128 rfl (lv_at hl 1 rfl) ?_
        refine lv_aload_n hx hb nD_LAW_law_129 rfl (lv_at hl 0 rfl) ?_
        refine lv_iload hx hb nD_LAW_law_130 (lv_at hl 4 rfl) ?_
        refine lv_iconst (v := 1) hx hb nD_LAW_law_132 (by decide) ?_
        refine lv_iadd hx hb nD_LAW_law_133 ?_
        obtain ⟨g4, hf⟩ := gt_of hf
        refine sl_d F9 X9 hw g4 nD_LAW_law_134 ?_
        refine lv_aload_n hx hb nD_LAW_law_135 rfl (lv_at hl 0 rfl) ?_
        refine lv_iload hx hb nD_LAW_law_136 (lv_at hl 4 rfl) ?_
        refine lv_iconst (v := 2) hx hb nD_LAW_law_138 (by decide) ?_
        refine lv_iadd hx hb nD_LAW_law_139 ?_
        obtain ⟨g5, hf⟩ := gt_of hf
        refine sl_d F9 X9 hw g5 nD_LAW_law_140 ?_
        refine lv_aload_n hx hb nD_LAW_law_141 rfl (lv_at hl 0 rfl) ?_
        refine lv_iload hx hb nD_LAW_law_142 (lv_at hl 4 rfl) ?_
        refine lv_iconst (v := 3) hx hb nD_LAW_law_144 (by decide) ?_
        refine lv_iadd hx hb nD_LAW_law_145 ?_
        obtain ⟨g6, hf⟩ := gt_of hf
        refine sl_d F9 X9 hw g6 nD_LAW_law_146 ?_
        refine lv_aload_n hx hb nD_LAW_law_147 rfl (lv_at hl 0 rfl) ?_
        refine lv_iload hx hb nD_LAW_law_148 (lv_at hl 4 rfl) ?_
        refine lv_iconst (v := 4) hx hb nD_LAW_law_150 (by decide) ?_
        refine lv_iadd hx hb nD_LAW_law_151 ?_
        obtain ⟨g7, hf⟩ := gt_of hf
        refine sl_d F9 X9 hw g7 nD_LAW_law_152 ?_
        refine lv_aload_n hx hb nD_LAW_law_153 rfl (lv_at hl 0 rfl) ?_
        refine lv_iload hx hb nD_LAW_law_154 (lv_at hl 4 rfl) ?_
        refine lv_iconst (v := 5) hx hb nD_LAW_law_156 (by decide) ?_
        refine lv_iadd hx hb nD_LAW_law_157 ?_
        obtain ⟨g8, hf⟩ := gt_of hf
        refine sl_d F9 X9 hw g8 nD_LAW_law_158 ?_
        refine lv_aload_n hx hb nD_LAW_law_159 rfl (lv_at hl 3 rfl) ?_
        obtain ⟨z9, hz9, hf⟩ := bd_of hf
        refine cg_sw (As := [.ref (x.2.2 0), .int (xs (tn_I (a4 + (1 : Int32)))), .int (xs (tn_I (a4 + (2 : Int32)))), .int (xs (tn_I (a4 + (3 : Int32)))), .int (xs (tn_I (a4 + (4 : Int32)))), .int (xs (tn_I (a4 + (5 : Int32)))), .ref (x.2.2 102)]) (rest := []) F9 X9.2.2.2 hw (ct_LAW_put l hl9 x (xs (tn_I (a4 + (1 : Int32)))) (xs (tn_I (a4 + (2 : Int32)))) (xs (tn_I (a4 + (3 : Int32)))) (xs (tn_I (a4 + (4 : Int32)))) (xs (tn_I (a4 + (5 : Int32)))) _ _ hz9) wc_LAW_51 hd_LAW_put ⟨by decide, by decide, by decide⟩ ⟨show cells + 1 ≤ 661366 by omega, show slots + 6 ≤ 7111972 by omega⟩ hl rfl (Nat.le_of_ble_eq_true rfl) nD_LAW_law_160 (fun H locs hw _ _ => ?_)
        refine lv_istore (lv' := [(5, .int z9.1), (0, .ref b), (1, .ref (x.2.2 0)), (2, .ref (x.2.2 82)), (3, .ref (x.2.2 102)), (4, .int a4)]) hx hb nD_LAW_law_163 hl (by decide) rfl (fun ls hl => ?_)
        refine lv_aload_n hx hb nD_LAW_law_165 rfl (lv_at hl 3 rfl) ?_
        refine lv_aload_n hx hb nD_LAW_law_166 rfl (lv_at hl 1 rfl) ?_
        refine lv_iload hx hb nD_LAW_law_167 (lv_at hl 5 rfl) ?_
        refine lv_iconst (v := 1) hx hb nD_LAW_law_169 (by decide) ?_
        refine lv_iadd hx hb nD_LAW_law_170 ?_
        obtain ⟨g10, hf⟩ := gt_of hf
        refine sl_d F9 X9 hw g10 nD_LAW_law_171 ?_
        refine lv_aload_n hx hb nD_LAW_law_172 rfl (lv_at hl 1 rfl) ?_
        refine lv_iload hx hb nD_LAW_law_173 (lv_at hl 5 rfl) ?_
        refine lv_iconst (v := 2) hx hb nD_LAW_law_175 (by decide) ?_
        refine lv_iadd hx hb nD_LAW_law_176 ?_
        obtain ⟨g11, hf⟩ := gt_of hf
        refine sl_d F9 X9 hw g11 nD_LAW_law_177 ?_
        refine lv_aload_n hx hb nD_LAW_law_178 rfl (lv_at hl 1 rfl) ?_
        refine lv_iload hx hb nD_LAW_law_179 (lv_at hl 5 rfl) ?_
        refine lv_iconst (v := 3) hx hb nD_LAW_law_181 (by decide) ?_
        refine lv_iadd hx hb nD_LAW_law_182 ?_
        obtain ⟨g12, hf⟩ := gt_of hf
        refine sl_d F9 X9 hw g12 nD_LAW_law_183 ?_
        refine lv_aload_n hx hb nD_LAW_law_184 rfl (lv_at hl 1 rfl) ?_
        refine lv_iload hx hb nD_LAW_law_185 (lv_at hl 5 rfl) ?_
        refine lv_iconst (v := 4) hx hb nD_LAW_law_187 (by decide) ?_
        refine lv_iadd hx hb nD_LAW_law_188 ?_
        obtain ⟨g13, hf⟩ := gt_of hf
        refine sl_d F9 X9 hw g13 nD_LAW_law_189 ?_
        refine lv_aload_n hx hb nD_LAW_law_190 rfl (lv_at hl 1 rfl) ?_
        refine lv_iload hx hb nD_LAW_law_191 (lv_at hl 5 rfl) ?_
        refine lv_iconst (v := 5) hx hb nD_LAW_law_193 (by decide) ?_
        refine lv_iadd hx hb nD_LAW_law_194 ?_
        obtain ⟨g14, hf⟩ := gt_of hf
        refine sl_d F9 X9 hw g14 nD_LAW_law_195 ?_
        obtain ⟨z15, hz15, hf⟩ := bd_of hf
        refine cg_vi (As := [.int (xs (tn_I (a4 + (1 : Int32)))), .int (xs (tn_I (a4 + (2 : Int32)))), .int (xs (tn_I (a4 + (3 : Int32)))), .int (xs (tn_I (a4 + (4 : Int32)))), .int (xs (tn_I (a4 + (5 : Int32))))]) (rest := []) F9 hw (ct_MOD_put l x (xs (tn_I (a4 + (1 : Int32)))) (xs (tn_I (a4 + (2 : Int32)))) (xs (tn_I (a4 + (3 : Int32)))) (xs (tn_I (a4 + (4 : Int32)))) (xs (tn_I (a4 + (5 : Int32)))) _ _ hz15) rc_MOD wc_LAW_54 hd_MOD_put ⟨by decide, by decide, by decide⟩ ⟨show _ ≤ 661366 by omega, show _ ≤ 7111972 by omega⟩ hl rfl (Nat.le_of_ble_eq_true rfl) nD_LAW_law_196 (fun H locs hw => ?_)
        refine lv_istore (lv' := [(6, .int z15.1), (5, .int z9.1), (0, .ref b), (1, .ref (x.2.2 0)), (2, .ref (x.2.2 82)), (3, .ref (x.2.2 102)), (4, .int a4)]) hx hb nD_LAW_law_199 hl (by decide) rfl (fun ls hl => ?_)
        refine lv_aload_n hx hb nD_LAW_law_201 rfl (lv_at hl 4 rfl) ?_
        obtain ⟨z16, hz16, hf⟩ := bd_of hf
        refine cg_vi (As := []) (rest := []) F9 hw (ct_MOD_thrown l x  _ _ hz16) rc_MOD wc_LAW_55 hd_MOD_thrown ⟨by decide, by decide, by decide⟩ ⟨show _ ≤ 661366 by omega, show _ ≤ 7111972 by omega⟩ hl rfl (Nat.le_of_ble_eq_true rfl) nD_LAW_law_202 (fun H locs hw => ?_)
        refine lv_iload hx hb nD_LAW_law_205 (lv_at hl 1 rfl) ?_
        refine lv_icmp_eq (tgt := 212) hx hb nD_LAW_law_207 (by decide) (fun h17 => ?_) (fun h17 => ?_)
        · rw [if_pos h17] at hf
          refine lv_iload hx hb nD_LAW_law_212 (lv_at hl 1 rfl) ?_
          refine lv_if_ne (tgt := 229) hx hb nD_LAW_law_214 (by decide) (fun h18 => ?_) (fun h18 => ?_)
          · rw [if_neg h18] at hf
            exact bk_LAW_law_229 F9 X9 hl9 n (fb_LAW_law_43 L xs n) ih a4 (by omega) (by omega) hw (lv_sub hl [2, 3, 4, 5, 6] rfl) hf
          · rw [if_pos h18] at hf
            refine lv_aload_n hx hb nD_LAW_law_217 rfl (lv_at hl 5 rfl) ?_
            refine lv_iconst (v := 0) hx hb nD_LAW_law_218 (by decide) ?_
            obtain ⟨g19, hf⟩ := gt_of hf
            refine al_out F9 hw g19 nD_LAW_law_219 ?_
            refine lv_iload hx hb nD_LAW_law_220 (lv_at hl 0 rfl) ?_
            refine lv_i2l (v := z15.1.toInt64) hx hb nD_LAW_law_222 rfl ?_
            refine W.lcmp hx hb nD_LAW_law_223 ?_
            refine lv_if_eq (tgt := 229) hx hb nD_LAW_law_224 (by decide) (fun h20 => ?_) (fun h20 => ?_)
            · rw [if_pos h20] at hf
              exact bk_LAW_law_229 F9 X9 hl9 n (fb_LAW_law_43 L xs n) ih a4 (by omega) (by omega) hw (lv_sub hl [2, 3, 4, 5, 6] rfl) hf
            · rw [if_neg h20] at hf
              refine lv_iconst (v := 0) hx hb nD_LAW_law_227 (by decide) ?_
              cases hf
        · rw [if_neg h17] at hf
          refine lv_iconst (v := 0) hx hb nD_LAW_law_210 (by decide) ?_
          cases hf
      rw [if_neg h3] at hf
      by_cases h21 : ((xs (tn_I a4)) &&& (15 : Int32)) = (1 : Int32)
      · rw [if_pos h21] at hf
        refine sw_in (tgt := 232) (1) hx hb nD_LAW_law_60 h21 (by decide) (by decide) rfl (by decide) ?_
        refine lv_aload_n hx hb nD_LAW_law_232 rfl (lv_at hl 1 rfl) ?_
        refine lv_aload_n hx hb nD_LAW_law_233 rfl (lv_at hl 0 rfl) ?_
        refine lv_iload hx hb nD_LAW_law_234 (lv_at hl 4 rfl) ?_
        refine lv_iconst (v := 1) hx hb nD_LAW_law_236 (by decide) ?_
        refine lv_iadd hx hb nD_LAW_law_237 ?_
        obtain ⟨g22, hf⟩ := gt_of hf
        refine sl_d F9 X9 hw g22 nD_LAW_law_238 ?_
        refine lv_aload_n hx hb nD_LAW_law_239 rfl (lv_at hl 3 rfl) ?_
        obtain ⟨z23, hz23, hf⟩ := bd_of hf
        refine cg_sw (As := [.ref (x.2.2 0), .int (xs (tn_I (a4 + (1 : Int32)))), .ref (x.2.2 102)]) (rest := []) F9 X9.2.2.2 hw (ct_LAW_start l hl9 x (xs (tn_I (a4 + (1 : Int32)))) _ _ hz23) wc_LAW_59 hd_LAW_start ⟨by decide, by decide, by decide⟩ ⟨show cells + 1 ≤ 661366 by omega, show slots + 6 ≤ 7111972 by omega⟩ hl rfl (Nat.le_of_ble_eq_true rfl) nD_LAW_law_240 (fun H locs hw _ _ => ?_)
        refine lv_istore (lv' := [(5, .int z23.1), (0, .ref b), (1, .ref (x.2.2 0)), (2, .ref (x.2.2 82)), (3, .ref (x.2.2 102)), (4, .int a4)]) hx hb nD_LAW_law_243 hl (by decide) rfl (fun ls hl => ?_)
        refine lv_aload_n hx hb nD_LAW_law_245 rfl (lv_at hl 3 rfl) ?_
        refine lv_aload_n hx hb nD_LAW_law_246 rfl (lv_at hl 1 rfl) ?_
        refine lv_iload hx hb nD_LAW_law_247 (lv_at hl 5 rfl) ?_
        refine lv_iconst (v := 1) hx hb nD_LAW_law_249 (by decide) ?_
        refine lv_iadd hx hb nD_LAW_law_250 ?_
        obtain ⟨g24, hf⟩ := gt_of hf
        refine sl_d F9 X9 hw g24 nD_LAW_law_251 ?_
        obtain ⟨z25, hz25, hf⟩ := bd_of hf
        refine cg_vi (As := [.int (xs (tn_I (a4 + (1 : Int32))))]) (rest := []) F9 hw (ct_MOD_start l x (xs (tn_I (a4 + (1 : Int32)))) _ _ hz25) rc_MOD wc_LAW_62 hd_MOD_start ⟨by decide, by decide, by decide⟩ ⟨show _ ≤ 661366 by omega, show _ ≤ 7111972 by omega⟩ hl rfl (Nat.le_of_ble_eq_true rfl) nD_LAW_law_252 (fun H locs hw => ?_)
        refine lv_istore (lv' := [(6, .int z25.1), (5, .int z23.1), (0, .ref b), (1, .ref (x.2.2 0)), (2, .ref (x.2.2 82)), (3, .ref (x.2.2 102)), (4, .int a4)]) hx hb nD_LAW_law_255 hl (by decide) rfl (fun ls hl => ?_)
        refine lv_aload_n hx hb nD_LAW_law_257 rfl (lv_at hl 4 rfl) ?_
        obtain ⟨z26, hz26, hf⟩ := bd_of hf
        refine cg_vi (As := []) (rest := []) F9 hw (ct_MOD_thrown l x  _ _ hz26) rc_MOD wc_LAW_55 hd_MOD_thrown ⟨by decide, by decide, by decide⟩ ⟨show _ ≤ 661366 by omega, show _ ≤ 7111972 by omega⟩ hl rfl (Nat.le_of_ble_eq_true rfl) nD_LAW_law_258 (fun H locs hw => ?_)
        refine lv_iload hx hb nD_LAW_law_261 (lv_at hl 1 rfl) ?_
        refine lv_icmp_eq (tgt := 268) hx hb nD_LAW_law_263 (by decide) (fun h27 => ?_) (fun h27 => ?_)
        · rw [if_pos h27] at hf
          refine lv_iload hx hb nD_LAW_law_268 (lv_at hl 1 rfl) ?_
          refine lv_if_ne (tgt := 292) hx hb nD_LAW_law_270 (by decide) (fun h28 => ?_) (fun h28 => ?_)
          · rw [if_neg h28] at hf
            exact bk_LAW_law_292 F9 X9 hl9 n (fb_LAW_law_43 L xs n) ih a4 (by omega) (by omega) hw (lv_sub hl [2, 3, 4, 5, 6] rfl) hf
          · rw [if_pos h28] at hf
            refine lv_aload_n hx hb nD_LAW_law_273 rfl (lv_at hl 5 rfl) ?_
            refine lv_iconst (v := 0) hx hb nD_LAW_law_274 (by decide) ?_
            obtain ⟨g29, hf⟩ := gt_of hf
            refine al_out F9 hw g29 nD_LAW_law_275 ?_
            refine lv_iload hx hb nD_LAW_law_276 (lv_at hl 0 rfl) ?_
            refine lv_if_eq (tgt := 285) hx hb nD_LAW_law_278 (by decide) (fun h30 => ?_) (fun h30 => ?_)
            · rw [if_pos h30] at hf
              refine lv_lconst (v := 0) hx hb nD_LAW_law_285 (by decide) ?_
              exact bk_LAW_law_286 F9 X9 hl9 n (fb_LAW_law_43 L xs n) ih a4 (0 : Int64) ((z26.2 51 0).toInt64) (by omega) (by omega) hw (lv_sub hl [2, 3, 4, 5, 6] rfl) hf
            · rw [if_neg h30] at hf
              refine lv_lconst (v := 1) hx hb nD_LAW_law_281 (by decide) ?_
              refine lv_goto (tgt := 286) hx hb nD_LAW_law_282 (by decide) ?_
              exact bk_LAW_law_286 F9 X9 hl9 n (fb_LAW_law_43 L xs n) ih a4 (1 : Int64) ((z26.2 51 0).toInt64) (by omega) (by omega) hw (lv_sub hl [2, 3, 4, 5, 6] rfl) hf
        · rw [if_neg h27] at hf
          refine lv_iconst (v := 0) hx hb nD_LAW_law_266 (by decide) ?_
          cases hf
      rw [if_neg h21] at hf
      by_cases h32 : ((xs (tn_I a4)) &&& (15 : Int32)) = (2 : Int32)
      · rw [if_pos h32] at hf
        refine sw_in (tgt := 295) (2) hx hb nD_LAW_law_60 h32 (by decide) (by decide) rfl (by decide) ?_
        refine lv_aload_n hx hb nD_LAW_law_295 rfl (lv_at hl 1 rfl) ?_
        refine lv_aload_n hx hb nD_LAW_law_296 rfl (lv_at hl 0 rfl) ?_
        refine lv_iload hx hb nD_LAW_law_297 (lv_at hl 4 rfl) ?_
        refine lv_iconst (v := 1) hx hb nD_LAW_law_299 (by decide) ?_
        refine lv_iadd hx hb nD_LAW_law_300 ?_
        obtain ⟨g33, hf⟩ := gt_of hf
        refine sl_d F9 X9 hw g33 nD_LAW_law_301 ?_
        refine lv_aload_n hx hb nD_LAW_law_302 rfl (lv_at hl 3 rfl) ?_
        obtain ⟨z34, hz34, hf⟩ := bd_of hf
        refine cg_sw (As := [.ref (x.2.2 0), .int (xs (tn_I (a4 + (1 : Int32)))), .ref (x.2.2 102)]) (rest := []) F9 X9.2.2.2 hw (ct_LAW_run l hl9 x (xs (tn_I (a4 + (1 : Int32)))) _ _ hz34) wc_LAW_63 hd_LAW_run ⟨by decide, by decide, by decide⟩ ⟨show cells + 1 ≤ 661366 by omega, show slots + 6 ≤ 7111972 by omega⟩ hl rfl (Nat.le_of_ble_eq_true rfl) nD_LAW_law_303 (fun H locs hw _ _ => ?_)
        refine lv_istore (lv' := [(5, .int z34.1), (0, .ref b), (1, .ref (x.2.2 0)), (2, .ref (x.2.2 82)), (3, .ref (x.2.2 102)), (4, .int a4)]) hx hb nD_LAW_law_306 hl (by decide) rfl (fun ls hl => ?_)
        refine lv_aload_n hx hb nD_LAW_law_308 rfl (lv_at hl 3 rfl) ?_
        refine lv_aload_n hx hb nD_LAW_law_309 rfl (lv_at hl 1 rfl) ?_
        refine lv_iload hx hb nD_LAW_law_310 (lv_at hl 5 rfl) ?_
        refine lv_iconst (v := 1) hx hb nD_LAW_law_312 (by decide) ?_
        refine lv_iadd hx hb nD_LAW_law_313 ?_
        obtain ⟨g35, hf⟩ := gt_of hf
        refine sl_d F9 X9 hw g35 nD_LAW_law_314 ?_
        obtain ⟨z36, hz36, hf⟩ := bd_of hf
        refine cg_vi (As := [.int (xs (tn_I (a4 + (1 : Int32))))]) (rest := []) F9 hw (ct_MOD_run l x (xs (tn_I (a4 + (1 : Int32)))) _ _ hz36) rc_MOD wc_LAW_65 hd_MOD_run ⟨by decide, by decide, by decide⟩ ⟨show _ ≤ 661366 by omega, show _ ≤ 7111972 by omega⟩ hl rfl (Nat.le_of_ble_eq_true rfl) nD_LAW_law_315 (fun H locs hw => ?_)
        refine lv_istore (lv' := [(6, .int z36.1), (5, .int z34.1), (0, .ref b), (1, .ref (x.2.2 0)), (2, .ref (x.2.2 82)), (3, .ref (x.2.2 102)), (4, .int a4)]) hx hb nD_LAW_law_318 hl (by decide) rfl (fun ls hl => ?_)
        refine lv_aload_n hx hb nD_LAW_law_320 rfl (lv_at hl 4 rfl) ?_
        obtain ⟨z37, hz37, hf⟩ := bd_of hf
        refine cg_vi (As := []) (rest := []) F9 hw (ct_MOD_thrown l x  _ _ hz37) rc_MOD wc_LAW_55 hd_MOD_thrown ⟨by decide, by decide, by decide⟩ ⟨show _ ≤ 661366 by omega, show _ ≤ 7111972 by omega⟩ hl rfl (Nat.le_of_ble_eq_true rfl) nD_LAW_law_321 (fun H locs hw => ?_)
        refine lv_iload hx hb nD_LAW_law_324 (lv_at hl 1 rfl) ?_
        refine lv_icmp_eq (tgt := 331) hx hb nD_LAW_law_326 (by decide) (fun h38 => ?_) (fun h38 => ?_)
        · rw [if_pos h38] at hf
          refine lv_iload hx hb nD_LAW_law_331 (lv_at hl 1 rfl) ?_
          refine lv_if_ne (tgt := 348) hx hb nD_LAW_law_333 (by decide) (fun h39 => ?_) (fun h39 => ?_)
          · rw [if_neg h39] at hf
            exact bk_LAW_law_348 F9 X9 hl9 n (fb_LAW_law_43 L xs n) ih a4 (by omega) (by omega) hw (lv_sub hl [2, 3, 4, 5, 6] rfl) hf
          · rw [if_pos h39] at hf
            refine lv_aload_n hx hb nD_LAW_law_336 rfl (lv_at hl 5 rfl) ?_
            refine lv_iconst (v := 0) hx hb nD_LAW_law_337 (by decide) ?_
            obtain ⟨g40, hf⟩ := gt_of hf
            refine al_out F9 hw g40 nD_LAW_law_338 ?_
            refine lv_iload hx hb nD_LAW_law_339 (lv_at hl 0 rfl) ?_
            refine lv_i2l (v := z36.1.toInt64) hx hb nD_LAW_law_341 rfl ?_
            refine W.lcmp hx hb nD_LAW_law_342 ?_
            refine lv_if_eq (tgt := 348) hx hb nD_LAW_law_343 (by decide) (fun h41 => ?_) (fun h41 => ?_)
            · rw [if_pos h41] at hf
              exact bk_LAW_law_348 F9 X9 hl9 n (fb_LAW_law_43 L xs n) ih a4 (by omega) (by omega) hw (lv_sub hl [2, 3, 4, 5, 6] rfl) hf
            · rw [if_neg h41] at hf
              refine lv_iconst (v := 0) hx hb nD_LAW_law_346 (by decide) ?_
              cases hf
        · rw [if_neg h38] at hf
          refine lv_iconst (v := 0) hx hb nD_LAW_law_329 (by decide) ?_
          cases hf
      rw [if_neg h32] at hf
      by_cases h42 : ((xs (tn_I a4)) &&& (15 : Int32)) = (3 : Int32)
      · rw [if_pos h42] at hf
        refine sw_in (tgt := 351) (3) hx hb nD_LAW_law_60 h42 (by decide) (by decide) rfl (by decide) ?_
        refine lv_aload_n hx hb nD_LAW_law_351 rfl (lv_at hl 1 rfl) ?_
        refine lv_aload_n hx hb nD_LAW_law_352 rfl (lv_at hl 0 rfl) ?_
        refine lv_iload hx hb nD_LAW_law_353 (lv_at hl 4 rfl) ?_
        refine lv_iconst (v := 1) hx hb nD_LAW_law_355 (by decide) ?_
        refine lv_iadd hx hb nD_LAW_law_356 ?_
        obtain ⟨g43, hf⟩ := gt_of hf
        refine sl_d F9 X9 hw g43 nD_LAW_law_357 ?_
        refine lv_aload_n hx hb nD_LAW_law_358 rfl (lv_at hl 0 rfl) ?_
        refine lv_iload hx hb nD_LAW_law_359 (lv_at hl 4 rfl) ?_
        refine lv_iconst (v := 2) hx hb nD_LAW_law_361 (by decide) ?_
        refine lv_iadd hx hb nD_LAW_law_362 ?_
        obtain ⟨g44, hf⟩ := gt_of hf
        refine sl_d F9 X9 hw g44 nD_LAW_law_363 ?_
        refine lv_aload_n hx hb nD_LAW_law_364 rfl (lv_at hl 3 rfl) ?_
        obtain ⟨z45, hz45, hf⟩ := bd_of hf
        refine cg_sw (As := [.ref (x.2.2 0), .int (xs (tn_I (a4 + (1 : Int32)))), .int (xs (tn_I (a4 + (2 : Int32)))), .ref (x.2.2 102)]) (rest := []) F9 X9.2.2.2 hw (ct_LAW_set l hl9 x (xs (tn_I (a4 + (1 : Int32)))) (xs (tn_I (a4 + (2 : Int32)))) _ _ hz45) wc_LAW_66 hd_LAW_set ⟨by decide, by decide, by decide⟩ ⟨show cells + 1 ≤ 661366 by omega, show slots + 6 ≤ 7111972 by omega⟩ hl rfl (Nat.le_of_ble_eq_true rfl) nD_LAW_law_365 (fun H locs hw _ _ => ?_)
        refine lv_istore (lv' := [(5, .int z45.1), (0, .ref b), (1, .ref (x.2.2 0)), (2, .ref (x.2.2 82)), (3, .ref (x.2.2 102)), (4, .int a4)]) hx hb nD_LAW_law_368 hl (by decide) rfl (fun ls hl => ?_)
        refine lv_aload_n hx hb nD_LAW_law_370 rfl (lv_at hl 3 rfl) ?_
        refine lv_aload_n hx hb nD_LAW_law_371 rfl (lv_at hl 1 rfl) ?_
        refine lv_iload hx hb nD_LAW_law_372 (lv_at hl 5 rfl) ?_
        refine lv_iconst (v := 1) hx hb nD_LAW_law_374 (by decide) ?_
        refine lv_iadd hx hb nD_LAW_law_375 ?_
        obtain ⟨g46, hf⟩ := gt_of hf
        refine sl_d F9 X9 hw g46 nD_LAW_law_376 ?_
        refine lv_aload_n hx hb nD_LAW_law_377 rfl (lv_at hl 1 rfl) ?_
        refine lv_iload hx hb nD_LAW_law_378 (lv_at hl 5 rfl) ?_
        refine lv_iconst (v := 2) hx hb nD_LAW_law_380 (by decide) ?_
        refine lv_iadd hx hb nD_LAW_law_381 ?_
        obtain ⟨g47, hf⟩ := gt_of hf
        refine sl_d F9 X9 hw g47 nD_LAW_law_382 ?_
        obtain ⟨z48, hz48, hf⟩ := bd_of hf
        refine cg_vi (As := [.int (xs (tn_I (a4 + (1 : Int32)))), .int (xs (tn_I (a4 + (2 : Int32))))]) (rest := []) F9 hw (ct_MOD_set l x (xs (tn_I (a4 + (1 : Int32)))) (xs (tn_I (a4 + (2 : Int32)))) _ _ hz48) rc_MOD wc_LAW_69 hd_MOD_set ⟨by decide, by decide, by decide⟩ ⟨show _ ≤ 661366 by omega, show _ ≤ 7111972 by omega⟩ hl rfl (Nat.le_of_ble_eq_true rfl) nD_LAW_law_383 (fun H locs hw => ?_)
        refine lv_istore (lv' := [(6, .int z48.1), (5, .int z45.1), (0, .ref b), (1, .ref (x.2.2 0)), (2, .ref (x.2.2 82)), (3, .ref (x.2.2 102)), (4, .int a4)]) hx hb nD_LAW_law_386 hl (by decide) rfl (fun ls hl => ?_)
        refine lv_aload_n hx hb nD_LAW_law_388 rfl (lv_at hl 4 rfl) ?_
        obtain ⟨z49, hz49, hf⟩ := bd_of hf
        refine cg_vi (As := []) (rest := []) F9 hw (ct_MOD_thrown l x  _ _ hz49) rc_MOD wc_LAW_55 hd_MOD_thrown ⟨by decide, by decide, by decide⟩ ⟨show _ ≤ 661366 by omega, show _ ≤ 7111972 by omega⟩ hl rfl (Nat.le_of_ble_eq_true rfl) nD_LAW_law_389 (fun H locs hw => ?_)
        refine lv_iload hx hb nD_LAW_law_392 (lv_at hl 1 rfl) ?_
        refine lv_icmp_eq (tgt := 399) hx hb nD_LAW_law_394 (by decide) (fun h50 => ?_) (fun h50 => ?_)
        · rw [if_pos h50] at hf
          refine lv_iload hx hb nD_LAW_law_399 (lv_at hl 1 rfl) ?_
          refine lv_if_ne (tgt := 423) hx hb nD_LAW_law_401 (by decide) (fun h51 => ?_) (fun h51 => ?_)
          · rw [if_neg h51] at hf
            exact bk_LAW_law_423 F9 X9 hl9 n (fb_LAW_law_43 L xs n) ih a4 (by omega) (by omega) hw (lv_sub hl [2, 3, 4, 5, 6] rfl) hf
          · rw [if_pos h51] at hf
            refine lv_aload_n hx hb nD_LAW_law_404 rfl (lv_at hl 5 rfl) ?_
            refine lv_iconst (v := 0) hx hb nD_LAW_law_405 (by decide) ?_
            obtain ⟨g52, hf⟩ := gt_of hf
            refine al_out F9 hw g52 nD_LAW_law_406 ?_
            refine lv_iload hx hb nD_LAW_law_407 (lv_at hl 0 rfl) ?_
            refine lv_if_eq (tgt := 416) hx hb nD_LAW_law_409 (by decide) (fun h53 => ?_) (fun h53 => ?_)
            · rw [if_pos h53] at hf
              refine lv_lconst (v := 0) hx hb nD_LAW_law_416 (by decide) ?_
              exact bk_LAW_law_417 F9 X9 hl9 n (fb_LAW_law_43 L xs n) ih a4 (0 : Int64) ((z49.2 51 0).toInt64) (by omega) (by omega) hw (lv_sub hl [2, 3, 4, 5, 6] rfl) hf
            · rw [if_neg h53] at hf
              refine lv_lconst (v := 1) hx hb nD_LAW_law_412 (by decide) ?_
              refine lv_goto (tgt := 417) hx hb nD_LAW_law_413 (by decide) ?_
              exact bk_LAW_law_417 F9 X9 hl9 n (fb_LAW_law_43 L xs n) ih a4 (1 : Int64) ((z49.2 51 0).toInt64) (by omega) (by omega) hw (lv_sub hl [2, 3, 4, 5, 6] rfl) hf
        · rw [if_neg h50] at hf
          refine lv_iconst (v := 0) hx hb nD_LAW_law_397 (by decide) ?_
          cases hf
      rw [if_neg h42] at hf
      by_cases h55 : ((xs (tn_I a4)) &&& (15 : Int32)) = (4 : Int32)
      · rw [if_pos h55] at hf
        refine sw_in (tgt := 426) (4) hx hb nD_LAW_law_60 h55 (by decide) (by decide) rfl (by decide) ?_
        refine lv_aload_n hx hb nD_LAW_law_426 rfl (lv_at hl 1 rfl) ?_
        refine lv_aload_n hx hb nD_LAW_law_427 rfl (lv_at hl 0 rfl) ?_
        refine lv_iload hx hb nD_LAW_law_428 (lv_at hl 4 rfl) ?_
        refine lv_iconst (v := 1) hx hb nD_LAW_law_430 (by decide) ?_
        refine lv_iadd hx hb nD_LAW_law_431 ?_
        obtain ⟨g56, hf⟩ := gt_of hf
        refine sl_d F9 X9 hw g56 nD_LAW_law_432 ?_
        refine lv_aload_n hx hb nD_LAW_law_433 rfl (lv_at hl 0 rfl) ?_
        refine lv_iload hx hb nD_LAW_law_434 (lv_at hl 4 rfl) ?_
        refine lv_iconst (v := 2) hx hb nD_LAW_law_436 (by decide) ?_
        refine lv_iadd hx hb nD_LAW_law_437 ?_
        obtain ⟨g57, hf⟩ := gt_of hf
        refine sl_d F9 X9 hw g57 nD_LAW_law_438 ?_
        refine lv_aload_n hx hb nD_LAW_law_439 rfl (lv_at hl 3 rfl) ?_
        obtain ⟨z58, hz58, hf⟩ := bd_of hf
        refine cg_sw (As := [.ref (x.2.2 0), .int (xs (tn_I (a4 + (1 : Int32)))), .int (xs (tn_I (a4 + (2 : Int32)))), .ref (x.2.2 102)]) (rest := []) F9 X9.2.2.2 hw (ct_LAW_store l hl9 x (xs (tn_I (a4 + (1 : Int32)))) (xs (tn_I (a4 + (2 : Int32)))) _ _ hz58) wc_LAW_70 hd_LAW_store ⟨by decide, by decide, by decide⟩ ⟨show cells + 1 ≤ 661366 by omega, show slots + 6 ≤ 7111972 by omega⟩ hl rfl (Nat.le_of_ble_eq_true rfl) nD_LAW_law_440 (fun H locs hw _ _ => ?_)
        refine lv_istore (lv' := [(5, .int z58.1), (0, .ref b), (1, .ref (x.2.2 0)), (2, .ref (x.2.2 82)), (3, .ref (x.2.2 102)), (4, .int a4)]) hx hb nD_LAW_law_443 hl (by decide) rfl (fun ls hl => ?_)
        refine lv_aload_n hx hb nD_LAW_law_445 rfl (lv_at hl 3 rfl) ?_
        refine lv_aload_n hx hb nD_LAW_law_446 rfl (lv_at hl 1 rfl) ?_
        refine lv_iload hx hb nD_LAW_law_447 (lv_at hl 5 rfl) ?_
        refine lv_iconst (v := 1) hx hb nD_LAW_law_449 (by decide) ?_
        refine lv_iadd hx hb nD_LAW_law_450 ?_
        obtain ⟨g59, hf⟩ := gt_of hf
        refine sl_d F9 X9 hw g59 nD_LAW_law_451 ?_
        refine lv_aload_n hx hb nD_LAW_law_452 rfl (lv_at hl 1 rfl) ?_
        refine lv_iload hx hb nD_LAW_law_453 (lv_at hl 5 rfl) ?_
        refine lv_iconst (v := 2) hx hb nD_LAW_law_455 (by decide) ?_
        refine lv_iadd hx hb nD_LAW_law_456 ?_
        obtain ⟨g60, hf⟩ := gt_of hf
        refine sl_d F9 X9 hw g60 nD_LAW_law_457 ?_
        obtain ⟨z61, hz61, hf⟩ := bd_of hf
        refine cg_vi (As := [.int (xs (tn_I (a4 + (1 : Int32)))), .int (xs (tn_I (a4 + (2 : Int32))))]) (rest := []) F9 hw (ct_MOD_store l x (xs (tn_I (a4 + (1 : Int32)))) (xs (tn_I (a4 + (2 : Int32)))) _ _ hz61) rc_MOD wc_LAW_72 hd_MOD_store ⟨by decide, by decide, by decide⟩ ⟨show _ ≤ 661366 by omega, show _ ≤ 7111972 by omega⟩ hl rfl (Nat.le_of_ble_eq_true rfl) nD_LAW_law_458 (fun H locs hw => ?_)
        refine lv_istore (lv' := [(6, .int z61.1), (5, .int z58.1), (0, .ref b), (1, .ref (x.2.2 0)), (2, .ref (x.2.2 82)), (3, .ref (x.2.2 102)), (4, .int a4)]) hx hb nD_LAW_law_461 hl (by decide) rfl (fun ls hl => ?_)
        refine lv_aload_n hx hb nD_LAW_law_463 rfl (lv_at hl 4 rfl) ?_
        obtain ⟨z62, hz62, hf⟩ := bd_of hf
        refine cg_vi (As := []) (rest := []) F9 hw (ct_MOD_thrown l x  _ _ hz62) rc_MOD wc_LAW_55 hd_MOD_thrown ⟨by decide, by decide, by decide⟩ ⟨show _ ≤ 661366 by omega, show _ ≤ 7111972 by omega⟩ hl rfl (Nat.le_of_ble_eq_true rfl) nD_LAW_law_464 (fun H locs hw => ?_)
        refine lv_iload hx hb nD_LAW_law_467 (lv_at hl 1 rfl) ?_
        refine lv_icmp_eq (tgt := 474) hx hb nD_LAW_law_469 (by decide) (fun h63 => ?_) (fun h63 => ?_)
        · rw [if_pos h63] at hf
          refine lv_iload hx hb nD_LAW_law_474 (lv_at hl 1 rfl) ?_
          refine lv_if_ne (tgt := 498) hx hb nD_LAW_law_476 (by decide) (fun h64 => ?_) (fun h64 => ?_)
          · rw [if_neg h64] at hf
            exact bk_LAW_law_498 F9 X9 hl9 n (fb_LAW_law_43 L xs n) ih a4 (by omega) (by omega) hw (lv_sub hl [2, 3, 4, 5, 6] rfl) hf
          · rw [if_pos h64] at hf
            refine lv_aload_n hx hb nD_LAW_law_479 rfl (lv_at hl 5 rfl) ?_
            refine lv_iconst (v := 0) hx hb nD_LAW_law_480 (by decide) ?_
            obtain ⟨g65, hf⟩ := gt_of hf
            refine al_out F9 hw g65 nD_LAW_law_481 ?_
            refine lv_iload hx hb nD_LAW_law_482 (lv_at hl 0 rfl) ?_
            refine lv_if_eq (tgt := 491) hx hb nD_LAW_law_484 (by decide) (fun h66 => ?_) (fun h66 => ?_)
            · rw [if_pos h66] at hf
              refine lv_lconst (v := 0) hx hb nD_LAW_law_491 (by decide) ?_
              exact bk_LAW_law_492 F9 X9 hl9 n (fb_LAW_law_43 L xs n) ih a4 (0 : Int64) ((z62.2 51 0).toInt64) (by omega) (by omega) hw (lv_sub hl [2, 3, 4, 5, 6] rfl) hf
            · rw [if_neg h66] at hf
              refine lv_lconst (v := 1) hx hb nD_LAW_law_487 (by decide) ?_
              refine lv_goto (tgt := 492) hx hb nD_LAW_law_488 (by decide) ?_
              exact bk_LAW_law_492 F9 X9 hl9 n (fb_LAW_law_43 L xs n) ih a4 (1 : Int64) ((z62.2 51 0).toInt64) (by omega) (by omega) hw (lv_sub hl [2, 3, 4, 5, 6] rfl) hf
        · rw [if_neg h63] at hf
          refine lv_iconst (v := 0) hx hb nD_LAW_law_472 (by decide) ?_
          cases hf
      rw [if_neg h55] at hf
      by_cases h68 : ((xs (tn_I a4)) &&& (15 : Int32)) = (5 : Int32)
      · rw [if_pos h68] at hf
        refine sw_in (tgt := 501) (5) hx hb nD_LAW_law_60 h68 (by decide) (by decide) rfl (by decide) ?_
        refine lv_aload_n hx hb nD_LAW_law_501 rfl (lv_at hl 1 rfl) ?_
        refine lv_aload_n hx hb nD_LAW_law_502 rfl (lv_at hl 0 rfl) ?_
        refine lv_iload hx hb nD_LAW_law_503 (lv_at hl 4 rfl) ?_
        refine lv_iconst (v := 1) hx hb nD_LAW_law_505 (by decide) ?_
        refine lv_iadd hx hb nD_LAW_law_506 ?_
        obtain ⟨g69, hf⟩ := gt_of hf
        refine sl_d F9 X9 hw g69 nD_LAW_law_507 ?_
        refine lv_aload_n hx hb nD_LAW_law_508 rfl (lv_at hl 0 rfl) ?_
        refine lv_iload hx hb nD_LAW_law_509 (lv_at hl 4 rfl) ?_
        refine lv_iconst (v := 2) hx hb nD_LAW_law_511 (by decide) ?_
        refine lv_iadd hx hb nD_LAW_law_512 ?_
        obtain ⟨g70, hf⟩ := gt_of hf
        refine sl_d F9 X9 hw g70 nD_LAW_law_513 ?_
        refine lv_aload_n hx hb nD_LAW_law_514 rfl (lv_at hl 0 rfl) ?_
        refine lv_iload hx hb nD_LAW_law_515 (lv_at hl 4 rfl) ?_
        refine lv_iconst (v := 3) hx hb nD_LAW_law_517 (by decide) ?_
        refine lv_iadd hx hb nD_LAW_law_518 ?_
        obtain ⟨g71, hf⟩ := gt_of hf
        refine sl_d F9 X9 hw g71 nD_LAW_law_519 ?_
        refine lv_aload_n hx hb nD_LAW_law_520 rfl (lv_at hl 3 rfl) ?_
        obtain ⟨z72, hz72, hf⟩ := bd_of hf
        refine cg_sw (As := [.ref (x.2.2 0), .int (xs (tn_I (a4 + (1 : Int32)))), .int (xs (tn_I (a4 + (2 : Int32)))), .int (xs (tn_I (a4 + (3 : Int32)))), .ref (x.2.2 102)]) (rest := []) F9 X9.2.2.2 hw (ct_LAW_reckon l hl9 x (xs (tn_I (a4 + (1 : Int32)))) (xs (tn_I (a4 + (2 : Int32)))) (xs (tn_I (a4 + (3 : Int32)))) _ _ hz72) wc_LAW_73 hd_LAW_reckon ⟨by decide, by decide, by decide⟩ ⟨show cells + 1 ≤ 661366 by omega, show slots + 6 ≤ 7111972 by omega⟩ hl rfl (Nat.le_of_ble_eq_true rfl) nD_LAW_law_521 (fun H locs hw _ _ => ?_)
        refine lv_istore (lv' := [(5, .int z72.1), (0, .ref b), (1, .ref (x.2.2 0)), (2, .ref (x.2.2 82)), (3, .ref (x.2.2 102)), (4, .int a4)]) hx hb nD_LAW_law_524 hl (by decide) rfl (fun ls hl => ?_)
        refine lv_aload_n hx hb nD_LAW_law_526 rfl (lv_at hl 3 rfl) ?_
        refine lv_aload_n hx hb nD_LAW_law_527 rfl (lv_at hl 1 rfl) ?_
        refine lv_iload hx hb nD_LAW_law_528 (lv_at hl 5 rfl) ?_
        refine lv_iconst (v := 1) hx hb nD_LAW_law_530 (by decide) ?_
        refine lv_iadd hx hb nD_LAW_law_531 ?_
        obtain ⟨g73, hf⟩ := gt_of hf
        refine sl_d F9 X9 hw g73 nD_LAW_law_532 ?_
        refine lv_aload_n hx hb nD_LAW_law_533 rfl (lv_at hl 1 rfl) ?_
        refine lv_iload hx hb nD_LAW_law_534 (lv_at hl 5 rfl) ?_
        refine lv_iconst (v := 2) hx hb nD_LAW_law_536 (by decide) ?_
        refine lv_iadd hx hb nD_LAW_law_537 ?_
        obtain ⟨g74, hf⟩ := gt_of hf
        refine sl_d F9 X9 hw g74 nD_LAW_law_538 ?_
        refine lv_aload_n hx hb nD_LAW_law_539 rfl (lv_at hl 1 rfl) ?_
        refine lv_iload hx hb nD_LAW_law_540 (lv_at hl 5 rfl) ?_
        refine lv_iconst (v := 3) hx hb nD_LAW_law_542 (by decide) ?_
        refine lv_iadd hx hb nD_LAW_law_543 ?_
        obtain ⟨g75, hf⟩ := gt_of hf
        refine sl_d F9 X9 hw g75 nD_LAW_law_544 ?_
        obtain ⟨z76, hz76, hf⟩ := bd_of hf
        refine cg_vi (As := [.int (xs (tn_I (a4 + (1 : Int32)))), .int (xs (tn_I (a4 + (2 : Int32)))), .int (xs (tn_I (a4 + (3 : Int32))))]) (rest := []) F9 hw (ct_MOD_reckon l x (xs (tn_I (a4 + (1 : Int32)))) (xs (tn_I (a4 + (2 : Int32)))) (xs (tn_I (a4 + (3 : Int32)))) _ _ hz76) rc_MOD wc_LAW_76 hd_MOD_reckon ⟨by decide, by decide, by decide⟩ ⟨show _ ≤ 661366 by omega, show _ ≤ 7111972 by omega⟩ hl rfl (Nat.le_of_ble_eq_true rfl) nD_LAW_law_545 (fun H locs hw => ?_)
        refine lv_istore (lv' := [(6, .int z76.1), (5, .int z72.1), (0, .ref b), (1, .ref (x.2.2 0)), (2, .ref (x.2.2 82)), (3, .ref (x.2.2 102)), (4, .int a4)]) hx hb nD_LAW_law_548 hl (by decide) rfl (fun ls hl => ?_)
        refine lv_aload_n hx hb nD_LAW_law_550 rfl (lv_at hl 4 rfl) ?_
        obtain ⟨z77, hz77, hf⟩ := bd_of hf
        refine cg_vi (As := []) (rest := []) F9 hw (ct_MOD_thrown l x  _ _ hz77) rc_MOD wc_LAW_55 hd_MOD_thrown ⟨by decide, by decide, by decide⟩ ⟨show _ ≤ 661366 by omega, show _ ≤ 7111972 by omega⟩ hl rfl (Nat.le_of_ble_eq_true rfl) nD_LAW_law_551 (fun H locs hw => ?_)
        refine lv_iload hx hb nD_LAW_law_554 (lv_at hl 1 rfl) ?_
        refine lv_icmp_eq (tgt := 561) hx hb nD_LAW_law_556 (by decide) (fun h78 => ?_) (fun h78 => ?_)
        · rw [if_pos h78] at hf
          refine lv_iload hx hb nD_LAW_law_561 (lv_at hl 1 rfl) ?_
          refine lv_if_ne (tgt := 578) hx hb nD_LAW_law_563 (by decide) (fun h79 => ?_) (fun h79 => ?_)
          · rw [if_neg h79] at hf
            exact bk_LAW_law_578 F9 X9 hl9 n (fb_LAW_law_43 L xs n) ih a4 (by omega) (by omega) hw (lv_sub hl [2, 3, 4, 5, 6] rfl) hf
          · rw [if_pos h79] at hf
            refine lv_aload_n hx hb nD_LAW_law_566 rfl (lv_at hl 5 rfl) ?_
            refine lv_iconst (v := 0) hx hb nD_LAW_law_567 (by decide) ?_
            obtain ⟨g80, hf⟩ := gt_of hf
            refine al_out F9 hw g80 nD_LAW_law_568 ?_
            refine lv_iload hx hb nD_LAW_law_569 (lv_at hl 0 rfl) ?_
            refine lv_i2l (v := z76.1.toInt64) hx hb nD_LAW_law_571 rfl ?_
            refine W.lcmp hx hb nD_LAW_law_572 ?_
            refine lv_if_eq (tgt := 578) hx hb nD_LAW_law_573 (by decide) (fun h81 => ?_) (fun h81 => ?_)
            · rw [if_pos h81] at hf
              exact bk_LAW_law_578 F9 X9 hl9 n (fb_LAW_law_43 L xs n) ih a4 (by omega) (by omega) hw (lv_sub hl [2, 3, 4, 5, 6] rfl) hf
            · rw [if_neg h81] at hf
              refine lv_iconst (v := 0) hx hb nD_LAW_law_576 (by decide) ?_
              cases hf
        · rw [if_neg h78] at hf
          refine lv_iconst (v := 0) hx hb nD_LAW_law_559 (by decide) ?_
          cases hf
      rw [if_neg h68] at hf
      by_cases h82 : ((xs (tn_I a4)) &&& (15 : Int32)) = (6 : Int32)
      · rw [if_pos h82] at hf
        refine sw_in (tgt := 581) (6) hx hb nD_LAW_law_60 h82 (by decide) (by decide) rfl (by decide) ?_
        refine lv_aload_n hx hb nD_LAW_law_581 rfl (lv_at hl 1 rfl) ?_
        refine lv_aload_n hx hb nD_LAW_law_582 rfl (lv_at hl 0 rfl) ?_
        refine lv_iload hx hb nD_LAW_law_583 (lv_at hl 4 rfl) ?_
        refine lv_iconst (v := 1) hx hb nD_LAW_law_585 (by decide) ?_
        refine lv_iadd hx hb nD_LAW_law_586 ?_
        obtain ⟨g83, hf⟩ := gt_of hf
        refine sl_d F9 X9 hw g83 nD_LAW_law_587 ?_
        refine lv_aload_n hx hb nD_LAW_law_588 rfl (lv_at hl 0 rfl) ?_
        refine lv_iload hx hb nD_LAW_law_589 (lv_at hl 4 rfl) ?_
        refine lv_iconst (v := 2) hx hb nD_LAW_law_591 (by decide) ?_
        refine lv_iadd hx hb nD_LAW_law_592 ?_
        obtain ⟨g84, hf⟩ := gt_of hf
        refine sl_d F9 X9 hw g84 nD_LAW_law_593 ?_
        refine lv_aload_n hx hb nD_LAW_law_594 rfl (lv_at hl 0 rfl) ?_
        refine lv_iload hx hb nD_LAW_law_595 (lv_at hl 4 rfl) ?_
        refine lv_iconst (v := 3) hx hb nD_LAW_law_597 (by decide) ?_
        refine lv_iadd hx hb nD_LAW_law_598 ?_
        obtain ⟨g85, hf⟩ := gt_of hf
        refine sl_d F9 X9 hw g85 nD_LAW_law_599 ?_
        refine lv_aload_n hx hb nD_LAW_law_600 rfl (lv_at hl 3 rfl) ?_
        obtain ⟨z86, hz86, hf⟩ := bd_of hf
        refine cg_sw (As := [.ref (x.2.2 0), .int (xs (tn_I (a4 + (1 : Int32)))), .int (xs (tn_I (a4 + (2 : Int32)))), .int (xs (tn_I (a4 + (3 : Int32)))), .ref (x.2.2 102)]) (rest := []) F9 X9.2.2.2 hw (ct_LAW_exceptions l hl9 x (xs (tn_I (a4 + (1 : Int32)))) (xs (tn_I (a4 + (2 : Int32)))) (xs (tn_I (a4 + (3 : Int32)))) _ _ hz86) wc_LAW_77 hd_LAW_exceptions ⟨by decide, by decide, by decide⟩ ⟨show cells + 1 ≤ 661366 by omega, show slots + 6 ≤ 7111972 by omega⟩ hl rfl (Nat.le_of_ble_eq_true rfl) nD_LAW_law_601 (fun H locs hw _ _ => ?_)
        refine lv_istore (lv' := [(5, .int z86.1), (0, .ref b), (1, .ref (x.2.2 0)), (2, .ref (x.2.2 82)), (3, .ref (x.2.2 102)), (4, .int a4)]) hx hb nD_LAW_law_604 hl (by decide) rfl (fun ls hl => ?_)
        refine lv_aload_n hx hb nD_LAW_law_606 rfl (lv_at hl 3 rfl) ?_
        refine lv_aload_n hx hb nD_LAW_law_607 rfl (lv_at hl 1 rfl) ?_
        refine lv_iload hx hb nD_LAW_law_608 (lv_at hl 5 rfl) ?_
        refine lv_iconst (v := 1) hx hb nD_LAW_law_610 (by decide) ?_
        refine lv_iadd hx hb nD_LAW_law_611 ?_
        obtain ⟨g87, hf⟩ := gt_of hf
        refine sl_d F9 X9 hw g87 nD_LAW_law_612 ?_
        refine lv_aload_n hx hb nD_LAW_law_613 rfl (lv_at hl 1 rfl) ?_
        refine lv_iload hx hb nD_LAW_law_614 (lv_at hl 5 rfl) ?_
        refine lv_iconst (v := 2) hx hb nD_LAW_law_616 (by decide) ?_
        refine lv_iadd hx hb nD_LAW_law_617 ?_
        obtain ⟨g88, hf⟩ := gt_of hf
        refine sl_d F9 X9 hw g88 nD_LAW_law_618 ?_
        refine lv_aload_n hx hb nD_LAW_law_619 rfl (lv_at hl 1 rfl) ?_
        refine lv_iload hx hb nD_LAW_law_620 (lv_at hl 5 rfl) ?_
        refine lv_iconst (v := 3) hx hb nD_LAW_law_622 (by decide) ?_
        refine lv_iadd hx hb nD_LAW_law_623 ?_
        obtain ⟨g89, hf⟩ := gt_of hf
        refine sl_d F9 X9 hw g89 nD_LAW_law_624 ?_
        obtain ⟨z90, hz90, hf⟩ := bd_of hf
        refine cg_vi (As := [.int (xs (tn_I (a4 + (1 : Int32)))), .int (xs (tn_I (a4 + (2 : Int32)))), .int (xs (tn_I (a4 + (3 : Int32))))]) (rest := []) F9 hw (ct_MOD_exceptions l x (xs (tn_I (a4 + (1 : Int32)))) (xs (tn_I (a4 + (2 : Int32)))) (xs (tn_I (a4 + (3 : Int32)))) _ _ hz90) rc_MOD wc_LAW_79 hd_MOD_exceptions ⟨by decide, by decide, by decide⟩ ⟨show _ ≤ 661366 by omega, show _ ≤ 7111972 by omega⟩ hl rfl (Nat.le_of_ble_eq_true rfl) nD_LAW_law_625 (fun H locs hw => ?_)
        refine lv_istore (lv' := [(6, .int z90.1), (5, .int z86.1), (0, .ref b), (1, .ref (x.2.2 0)), (2, .ref (x.2.2 82)), (3, .ref (x.2.2 102)), (4, .int a4)]) hx hb nD_LAW_law_628 hl (by decide) rfl (fun ls hl => ?_)
        refine lv_aload_n hx hb nD_LAW_law_630 rfl (lv_at hl 4 rfl) ?_
        obtain ⟨z91, hz91, hf⟩ := bd_of hf
        refine cg_vi (As := []) (rest := []) F9 hw (ct_MOD_thrown l x  _ _ hz91) rc_MOD wc_LAW_55 hd_MOD_thrown ⟨by decide, by decide, by decide⟩ ⟨show _ ≤ 661366 by omega, show _ ≤ 7111972 by omega⟩ hl rfl (Nat.le_of_ble_eq_true rfl) nD_LAW_law_631 (fun H locs hw => ?_)
        refine lv_iload hx hb nD_LAW_law_634 (lv_at hl 1 rfl) ?_
        refine lv_icmp_eq (tgt := 641) hx hb nD_LAW_law_636 (by decide) (fun h92 => ?_) (fun h92 => ?_)
        · rw [if_pos h92] at hf
          refine lv_iload hx hb nD_LAW_law_641 (lv_at hl 1 rfl) ?_
          refine lv_if_ne (tgt := 658) hx hb nD_LAW_law_643 (by decide) (fun h93 => ?_) (fun h93 => ?_)
          · rw [if_neg h93] at hf
            exact bk_LAW_law_658 F9 X9 hl9 n (fb_LAW_law_43 L xs n) ih a4 (by omega) (by omega) hw (lv_sub hl [2, 3, 4, 5, 6] rfl) hf
          · rw [if_pos h93] at hf
            refine lv_aload_n hx hb nD_LAW_law_646 rfl (lv_at hl 5 rfl) ?_
            refine lv_iconst (v := 0) hx hb nD_LAW_law_647 (by decide) ?_
            obtain ⟨g94, hf⟩ := gt_of hf
            refine al_out F9 hw g94 nD_LAW_law_648 ?_
            refine lv_iload hx hb nD_LAW_law_649 (lv_at hl 0 rfl) ?_
            refine lv_i2l (v := z90.1.toInt64) hx hb nD_LAW_law_651 rfl ?_
            refine W.lcmp hx hb nD_LAW_law_652 ?_
            refine lv_if_eq (tgt := 658) hx hb nD_LAW_law_653 (by decide) (fun h95 => ?_) (fun h95 => ?_)
            · rw [if_pos h95] at hf
              exact bk_LAW_law_658 F9 X9 hl9 n (fb_LAW_law_43 L xs n) ih a4 (by omega) (by omega) hw (lv_sub hl [2, 3, 4, 5, 6] rfl) hf
            · rw [if_neg h95] at hf
              refine lv_iconst (v := 0) hx hb nD_LAW_law_656 (by decide) ?_
              cases hf
        · rw [if_neg h92] at hf
          refine lv_iconst (v := 0) hx hb nD_LAW_law_639 (by decide) ?_
          cases hf
      rw [if_neg h82] at hf
      by_cases h96 : ((xs (tn_I a4)) &&& (15 : Int32)) = (7 : Int32)
      · rw [if_pos h96] at hf
        refine sw_in (tgt := 661) (7) hx hb nD_LAW_law_60 h96 (by decide) (by decide) rfl (by decide) ?_
        refine lv_aload_n hx hb nD_LAW_law_661 rfl (lv_at hl 1 rfl) ?_
        refine lv_aload_n hx hb nD_LAW_law_662 rfl (lv_at hl 0 rfl) ?_
        refine lv_iload hx hb nD_LAW_law_663 (lv_at hl 4 rfl) ?_
        refine lv_iconst (v := 1) hx hb nD_LAW_law_665 (by decide) ?_
        refine lv_iadd hx hb nD_LAW_law_666 ?_
        obtain ⟨g97, hf⟩ := gt_of hf
        refine sl_d F9 X9 hw g97 nD_LAW_law_667 ?_
        obtain ⟨z98, hz98, hf⟩ := bd_of hf
        refine cg_vi (As := [.int (xs (tn_I (a4 + (1 : Int32))))]) (rest := []) F9 hw (ct_TM_floating l x (xs (tn_I (a4 + (1 : Int32)))) _ _ hz98) rc_TM wc_LAW_80 hd_TM_floating ⟨by decide, by decide, by decide⟩ ⟨show _ ≤ 661366 by omega, show _ ≤ 7111972 by omega⟩ hl rfl (Nat.le_of_ble_eq_true rfl) nD_LAW_law_668 (fun H locs hw => ?_)
        refine lv_aload_n hx hb nD_LAW_law_671 rfl (lv_at hl 2 rfl) ?_
        refine lv_aload_n hx hb nD_LAW_law_672 rfl (lv_at hl 0 rfl) ?_
        refine lv_iload hx hb nD_LAW_law_673 (lv_at hl 4 rfl) ?_
        refine lv_iconst (v := 1) hx hb nD_LAW_law_675 (by decide) ?_
        refine lv_iadd hx hb nD_LAW_law_676 ?_
        obtain ⟨g99, hf⟩ := gt_of hf
        refine sl_d F9 X9 hw g99 nD_LAW_law_677 ?_
        obtain ⟨z100, hz100, hf⟩ := bd_of hf
        refine cg_vi (As := [.int (xs (tn_I (a4 + (1 : Int32))))]) (rest := [.int z98.1]) F9 hw (ct_MOD_floating l x (xs (tn_I (a4 + (1 : Int32)))) _ _ hz100) rc_MOD wc_LAW_83 hd_MOD_floating ⟨by decide, by decide, by decide⟩ ⟨show _ ≤ 661366 by omega, show _ ≤ 7111972 by omega⟩ hl rfl (Nat.le_of_ble_eq_true rfl) nD_LAW_law_678 (fun H locs hw => ?_)
        refine lv_icmp_eq (tgt := 811) hx hb nD_LAW_law_681 (by decide) (fun h101 => ?_) (fun h101 => ?_)
        · rw [if_pos h101] at hf
          exact bk_LAW_law_811 F9 X9 hl9 n (fb_LAW_law_43 L xs n) ih a4 (by omega) (by omega) hw (lv_sub hl [0, 1, 2, 3, 4] rfl) hf
        · rw [if_neg h101] at hf
          refine lv_iconst (v := 0) hx hb nD_LAW_law_684 (by decide) ?_
          cases hf
      rw [if_neg h96] at hf
      by_cases h102 : ((xs (tn_I a4)) &&& (15 : Int32)) = (8 : Int32)
      · rw [if_pos h102] at hf
        refine sw_in (tgt := 686) (8) hx hb nD_LAW_law_60 h102 (by decide) (by decide) rfl (by decide) ?_
        refine lv_aload_n hx hb nD_LAW_law_686 rfl (lv_at hl 1 rfl) ?_
        refine lv_aload_n hx hb nD_LAW_law_687 rfl (lv_at hl 0 rfl) ?_
        refine lv_iload hx hb nD_LAW_law_688 (lv_at hl 4 rfl) ?_
        refine lv_iconst (v := 1) hx hb nD_LAW_law_690 (by decide) ?_
        refine lv_iadd hx hb nD_LAW_law_691 ?_
        obtain ⟨g103, hf⟩ := gt_of hf
        refine sl_d F9 X9 hw g103 nD_LAW_law_692 ?_
        obtain ⟨z104, hz104, hf⟩ := bd_of hf
        refine cg_vi (As := [.int (xs (tn_I (a4 + (1 : Int32))))]) (rest := []) F9 hw (ct_TM_general l x (xs (tn_I (a4 + (1 : Int32)))) _ _ hz104) rc_TM wc_LAW_84 hd_TM_general ⟨by decide, by decide, by decide⟩ ⟨show _ ≤ 661366 by omega, show _ ≤ 7111972 by omega⟩ hl rfl (Nat.le_of_ble_eq_true rfl) nD_LAW_law_693 (fun H locs hw => ?_)
        refine lv_aload_n hx hb nD_LAW_law_696 rfl (lv_at hl 2 rfl) ?_
        refine lv_aload_n hx hb nD_LAW_law_697 rfl (lv_at hl 0 rfl) ?_
        refine lv_iload hx hb nD_LAW_law_698 (lv_at hl 4 rfl) ?_
        refine lv_iconst (v := 1) hx hb nD_LAW_law_700 (by decide) ?_
        refine lv_iadd hx hb nD_LAW_law_701 ?_
        obtain ⟨g105, hf⟩ := gt_of hf
        refine sl_d F9 X9 hw g105 nD_LAW_law_702 ?_
        obtain ⟨z106, hz106, hf⟩ := bd_of hf
        refine cg_vi (As := [.int (xs (tn_I (a4 + (1 : Int32))))]) (rest := [.int z104.1]) F9 hw (ct_MOD_general l x (xs (tn_I (a4 + (1 : Int32)))) _ _ hz106) rc_MOD wc_LAW_87 hd_MOD_general ⟨by decide, by decide, by decide⟩ ⟨show _ ≤ 661366 by omega, show _ ≤ 7111972 by omega⟩ hl rfl (Nat.le_of_ble_eq_true rfl) nD_LAW_law_703 (fun H locs hw => ?_)
        refine lv_icmp_eq (tgt := 811) hx hb nD_LAW_law_706 (by decide) (fun h107 => ?_) (fun h107 => ?_)
        · rw [if_pos h107] at hf
          exact bk_LAW_law_811 F9 X9 hl9 n (fb_LAW_law_43 L xs n) ih a4 (by omega) (by omega) hw (lv_sub hl [0, 1, 2, 3, 4] rfl) hf
        · rw [if_neg h107] at hf
          refine lv_iconst (v := 0) hx hb nD_LAW_law_709 (by decide) ?_
          cases hf
      rw [if_neg h102] at hf
      by_cases h108 : ((xs (tn_I a4)) &&& (15 : Int32)) = (9 : Int32)
      · rw [if_pos h108] at hf
        refine sw_in (tgt := 711) (9) hx hb nD_LAW_law_60 h108 (by decide) (by decide) rfl (by decide) ?_
        refine lv_aload_n hx hb nD_LAW_law_711 rfl (lv_at hl 1 rfl) ?_
        refine lv_aload_n hx hb nD_LAW_law_712 rfl (lv_at hl 0 rfl) ?_
        refine lv_iload hx hb nD_LAW_law_713 (lv_at hl 4 rfl) ?_
        refine lv_iconst (v := 1) hx hb nD_LAW_law_715 (by decide) ?_
        refine lv_iadd hx hb nD_LAW_law_716 ?_
        obtain ⟨g109, hf⟩ := gt_of hf
        refine sl_d F9 X9 hw g109 nD_LAW_law_717 ?_
        obtain ⟨z110, hz110, hf⟩ := bd_of hf
        refine cg_vi (As := [.int (xs (tn_I (a4 + (1 : Int32))))]) (rest := []) F9 hw (ct_TM_word l x (xs (tn_I (a4 + (1 : Int32)))) _ _ hz110) rc_TM wc_LAW_88 hd_TM_word ⟨by decide, by decide, by decide⟩ ⟨show _ ≤ 661366 by omega, show _ ≤ 7111972 by omega⟩ hl rfl (Nat.le_of_ble_eq_true rfl) nD_LAW_law_718 (fun H locs hw => ?_)
        refine lv_aload_n hx hb nD_LAW_law_721 rfl (lv_at hl 2 rfl) ?_
        refine lv_aload_n hx hb nD_LAW_law_722 rfl (lv_at hl 0 rfl) ?_
        refine lv_iload hx hb nD_LAW_law_723 (lv_at hl 4 rfl) ?_
        refine lv_iconst (v := 1) hx hb nD_LAW_law_725 (by decide) ?_
        refine lv_iadd hx hb nD_LAW_law_726 ?_
        obtain ⟨g111, hf⟩ := gt_of hf
        refine sl_d F9 X9 hw g111 nD_LAW_law_727 ?_
        obtain ⟨z112, hz112, hf⟩ := bd_of hf
        refine cg_vi (As := [.int (xs (tn_I (a4 + (1 : Int32))))]) (rest := [.int z110.1]) F9 hw (ct_MOD_word l x (xs (tn_I (a4 + (1 : Int32)))) _ _ hz112) rc_MOD wc_LAW_91 hd_MOD_word ⟨by decide, by decide, by decide⟩ ⟨show _ ≤ 661366 by omega, show _ ≤ 7111972 by omega⟩ hl rfl (Nat.le_of_ble_eq_true rfl) nD_LAW_law_728 (fun H locs hw => ?_)
        refine lv_icmp_eq (tgt := 811) hx hb nD_LAW_law_731 (by decide) (fun h113 => ?_) (fun h113 => ?_)
        · rw [if_pos h113] at hf
          exact bk_LAW_law_811 F9 X9 hl9 n (fb_LAW_law_43 L xs n) ih a4 (by omega) (by omega) hw (lv_sub hl [0, 1, 2, 3, 4] rfl) hf
        · rw [if_neg h113] at hf
          refine lv_iconst (v := 0) hx hb nD_LAW_law_734 (by decide) ?_
          cases hf
      rw [if_neg h108] at hf
      by_cases h114 : ((xs (tn_I a4)) &&& (15 : Int32)) = (10 : Int32)
      · rw [if_pos h114] at hf
        refine sw_in (tgt := 736) (10) hx hb nD_LAW_law_60 h114 (by decide) (by decide) rfl (by decide) ?_
        refine lv_aload_n hx hb nD_LAW_law_736 rfl (lv_at hl 1 rfl) ?_
        refine lv_aload_n hx hb nD_LAW_law_737 rfl (lv_at hl 0 rfl) ?_
        refine lv_iload hx hb nD_LAW_law_738 (lv_at hl 4 rfl) ?_
        refine lv_iconst (v := 1) hx hb nD_LAW_law_740 (by decide) ?_
        refine lv_iadd hx hb nD_LAW_law_741 ?_
        obtain ⟨g115, hf⟩ := gt_of hf
        refine sl_d F9 X9 hw g115 nD_LAW_law_742 ?_
        obtain ⟨z116, hz116, hf⟩ := bd_of hf
        refine cg_vi (As := [.int (xs (tn_I (a4 + (1 : Int32))))]) (rest := []) F9 hw (ct_TM_tag l x (xs (tn_I (a4 + (1 : Int32)))) _ _ hz116) rc_TM wc_LAW_92 hd_TM_tag ⟨by decide, by decide, by decide⟩ ⟨show _ ≤ 661366 by omega, show _ ≤ 7111972 by omega⟩ hl rfl (Nat.le_of_ble_eq_true rfl) nD_LAW_law_743 (fun H locs hw => ?_)
        refine lv_aload_n hx hb nD_LAW_law_746 rfl (lv_at hl 2 rfl) ?_
        refine lv_aload_n hx hb nD_LAW_law_747 rfl (lv_at hl 0 rfl) ?_
        refine lv_iload hx hb nD_LAW_law_748 (lv_at hl 4 rfl) ?_
        refine lv_iconst (v := 1) hx hb nD_LAW_law_750 (by decide) ?_
        refine lv_iadd hx hb nD_LAW_law_751 ?_
        obtain ⟨g117, hf⟩ := gt_of hf
        refine sl_d F9 X9 hw g117 nD_LAW_law_752 ?_
        obtain ⟨z118, hz118, hf⟩ := bd_of hf
        refine cg_vi (As := [.int (xs (tn_I (a4 + (1 : Int32))))]) (rest := [.int z116.1]) F9 hw (ct_MOD_tag l x (xs (tn_I (a4 + (1 : Int32)))) _ _ hz118) rc_MOD wc_LAW_95 hd_MOD_tag ⟨by decide, by decide, by decide⟩ ⟨show _ ≤ 661366 by omega, show _ ≤ 7111972 by omega⟩ hl rfl (Nat.le_of_ble_eq_true rfl) nD_LAW_law_753 (fun H locs hw => ?_)
        refine lv_icmp_eq (tgt := 811) hx hb nD_LAW_law_756 (by decide) (fun h119 => ?_) (fun h119 => ?_)
        · rw [if_pos h119] at hf
          exact bk_LAW_law_811 F9 X9 hl9 n (fb_LAW_law_43 L xs n) ih a4 (by omega) (by omega) hw (lv_sub hl [0, 1, 2, 3, 4] rfl) hf
        · rw [if_neg h119] at hf
          refine lv_iconst (v := 0) hx hb nD_LAW_law_759 (by decide) ?_
          cases hf
      rw [if_neg h114] at hf
      by_cases h120 : ((xs (tn_I a4)) &&& (15 : Int32)) = (11 : Int32)
      · rw [if_pos h120] at hf
        refine sw_in (tgt := 761) (11) hx hb nD_LAW_law_60 h120 (by decide) (by decide) rfl (by decide) ?_
        refine lv_aload_n hx hb nD_LAW_law_761 rfl (lv_at hl 1 rfl) ?_
        refine lv_aload_n hx hb nD_LAW_law_762 rfl (lv_at hl 0 rfl) ?_
        refine lv_iload hx hb nD_LAW_law_763 (lv_at hl 4 rfl) ?_
        refine lv_iconst (v := 1) hx hb nD_LAW_law_765 (by decide) ?_
        refine lv_iadd hx hb nD_LAW_law_766 ?_
        obtain ⟨g121, hf⟩ := gt_of hf
        refine sl_d F9 X9 hw g121 nD_LAW_law_767 ?_
        obtain ⟨z122, hz122, hf⟩ := bd_of hf
        refine cg_vi (As := [.int (xs (tn_I (a4 + (1 : Int32))))]) (rest := []) F9 hw (ct_TM_place l x (xs (tn_I (a4 + (1 : Int32)))) _ _ hz122) rc_TM wc_LAW_96 hd_TM_place ⟨by decide, by decide, by decide⟩ ⟨show _ ≤ 661366 by omega, show _ ≤ 7111972 by omega⟩ hl rfl (Nat.le_of_ble_eq_true rfl) nD_LAW_law_768 (fun H locs hw => ?_)
        refine lv_aload_n hx hb nD_LAW_law_771 rfl (lv_at hl 2 rfl) ?_
        refine lv_aload_n hx hb nD_LAW_law_772 rfl (lv_at hl 0 rfl) ?_
        refine lv_iload hx hb nD_LAW_law_773 (lv_at hl 4 rfl) ?_
        refine lv_iconst (v := 1) hx hb nD_LAW_law_775 (by decide) ?_
        refine lv_iadd hx hb nD_LAW_law_776 ?_
        obtain ⟨g123, hf⟩ := gt_of hf
        refine sl_d F9 X9 hw g123 nD_LAW_law_777 ?_
        obtain ⟨z124, hz124, hf⟩ := bd_of hf
        refine cg_vi (As := [.int (xs (tn_I (a4 + (1 : Int32))))]) (rest := [.int z122.1]) F9 hw (ct_MOD_place l x (xs (tn_I (a4 + (1 : Int32)))) _ _ hz124) rc_MOD wc_LAW_99 hd_MOD_place ⟨by decide, by decide, by decide⟩ ⟨show _ ≤ 661366 by omega, show _ ≤ 7111972 by omega⟩ hl rfl (Nat.le_of_ble_eq_true rfl) nD_LAW_law_778 (fun H locs hw => ?_)
        refine lv_icmp_eq (tgt := 811) hx hb nD_LAW_law_781 (by decide) (fun h125 => ?_) (fun h125 => ?_)
        · rw [if_pos h125] at hf
          exact bk_LAW_law_811 F9 X9 hl9 n (fb_LAW_law_43 L xs n) ih a4 (by omega) (by omega) hw (lv_sub hl [0, 1, 2, 3, 4] rfl) hf
        · rw [if_neg h125] at hf
          refine lv_iconst (v := 0) hx hb nD_LAW_law_784 (by decide) ?_
          cases hf
      rw [if_neg h120] at hf
      by_cases h126 : ((xs (tn_I a4)) &&& (15 : Int32)) = (12 : Int32)
      · rw [if_pos h126] at hf
        refine sw_in (tgt := 786) (12) hx hb nD_LAW_law_60 h126 (by decide) (by decide) rfl (by decide) ?_
        refine lv_aload_n hx hb nD_LAW_law_786 rfl (lv_at hl 1 rfl) ?_
        refine lv_aload_n hx hb nD_LAW_law_787 rfl (lv_at hl 0 rfl) ?_
        refine lv_iload hx hb nD_LAW_law_788 (lv_at hl 4 rfl) ?_
        refine lv_iconst (v := 1) hx hb nD_LAW_law_790 (by decide) ?_
        refine lv_iadd hx hb nD_LAW_law_791 ?_
        obtain ⟨g127, hf⟩ := gt_of hf
        refine sl_d F9 X9 hw g127 nD_LAW_law_792 ?_
        obtain ⟨z128, hz128, hf⟩ := bd_of hf
        refine cg_vi (As := [.int (xs (tn_I (a4 + (1 : Int32))))]) (rest := []) F9 hw (ct_TM_about l x (xs (tn_I (a4 + (1 : Int32)))) _ _ hz128) rc_TM wc_LAW_100 hd_TM_about ⟨by decide, by decide, by decide⟩ ⟨show _ ≤ 661366 by omega, show _ ≤ 7111972 by omega⟩ hl rfl (Nat.le_of_ble_eq_true rfl) nD_LAW_law_793 (fun H locs hw => ?_)
        refine lv_aload_n hx hb nD_LAW_law_796 rfl (lv_at hl 2 rfl) ?_
        refine lv_aload_n hx hb nD_LAW_law_797 rfl (lv_at hl 0 rfl) ?_
        refine lv_iload hx hb nD_LAW_law_798 (lv_at hl 4 rfl) ?_
        refine lv_iconst (v := 1) hx hb nD_LAW_law_800 (by decide) ?_
        refine lv_iadd hx hb nD_LAW_law_801 ?_
        obtain ⟨g129, hf⟩ := gt_of hf
        refine sl_d F9 X9 hw g129 nD_LAW_law_802 ?_
        obtain ⟨z130, hz130, hf⟩ := bd_of hf
        refine cg_vi (As := [.int (xs (tn_I (a4 + (1 : Int32))))]) (rest := [.int z128.1]) F9 hw (ct_MOD_about l x (xs (tn_I (a4 + (1 : Int32)))) _ _ hz130) rc_MOD wc_LAW_103 hd_MOD_about ⟨by decide, by decide, by decide⟩ ⟨show _ ≤ 661366 by omega, show _ ≤ 7111972 by omega⟩ hl rfl (Nat.le_of_ble_eq_true rfl) nD_LAW_law_803 (fun H locs hw => ?_)
        refine lv_icmp_eq (tgt := 811) hx hb nD_LAW_law_806 (by decide) (fun h131 => ?_) (fun h131 => ?_)
        · rw [if_pos h131] at hf
          exact bk_LAW_law_811 F9 X9 hl9 n (fb_LAW_law_43 L xs n) ih a4 (by omega) (by omega) hw (lv_sub hl [0, 1, 2, 3, 4] rfl) hf
        · rw [if_neg h131] at hf
          refine lv_iconst (v := 0) hx hb nD_LAW_law_809 (by decide) ?_
          cases hf
      rw [if_neg h126] at hf
      refine lv_tableOut (tgt := 811) hx hb nD_LAW_law_60 (by have q0 := it_ne h3; have q1 := it_ne h21; have q2 := it_ne h32; have q3 := it_ne h42; have q4 := it_ne h55; have q5 := it_ne h68; have q6 := it_ne h82; have q7 := it_ne h96; have q8 := it_ne h102; have q9 := it_ne h108; have q10 := it_ne h114; have q11 := it_ne h120; have q12 := it_ne h126; simp only [show (0 : Int32).toInt = 0 from rfl, show (1 : Int32).toInt = 1 from rfl, show (2 : Int32).toInt = 2 from rfl, show (3 : Int32).toInt = 3 from rfl, show (4 : Int32).toInt = 4 from rfl, show (5 : Int32).toInt = 5 from rfl, show (6 : Int32).toInt = 6 from rfl, show (7 : Int32).toInt = 7 from rfl, show (8 : Int32).toInt = 8 from rfl, show (9 : Int32).toInt = 9 from rfl, show (10 : Int32).toInt = 10 from rfl, show (11 : Int32).toInt = 11 from rfl, show (12 : Int32).toInt = 12 from rfl] at *; omega) (by decide) ?_
      exact bk_LAW_law_811 F9 X9 hl9 n (fb_LAW_law_43 L xs n) ih a4 (by omega) (by omega) hw (lv_sub hl [0, 1, 2, 3, 4] rfl) hf
end LW
