theorem d_law_620 : decode code 620 = .ok (.iload 5, 2) := by decide +kernel
theorem d_law_622 : decode code 622 = .ok (.ifCond .ne 15, 3) := by decide +kernel
theorem d_law_625 : decode code 625 = .ok (.aload_n 3, 1) := by decide +kernel
theorem d_law_626 : decode code 626 = .ok (.iconst 0, 1) := by decide +kernel
theorem d_law_627 : decode code 627 = .ok (.laload, 1) := by decide +kernel
theorem d_law_628 : decode code 628 = .ok (.iload 6, 2) := by decide +kernel
theorem d_law_630 : decode code 630 = .ok (.i2l, 1) := by decide +kernel
theorem d_law_631 : decode code 631 = .ok (.lcmp, 1) := by decide +kernel
theorem d_law_632 : decode code 632 = .ok (.ifCond .eq 5, 3) := by decide +kernel
theorem d_law_635 : decode code 635 = .ok (.iconst 0, 1) := by decide +kernel
theorem d_law_636 : decode code 636 = .ok (.ireturn, 1) := by decide +kernel
theorem d_law_637 : decode code 637 = .ok (.goto 121, 3) := by decide +kernel
theorem d_law_640 : decode code 640 = .ok (.aload_n 1, 1) := by decide +kernel
theorem d_law_641 : decode code 641 = .ok (.aload_n 0, 1) := by decide +kernel
theorem d_law_642 : decode code 642 = .ok (.iload 4, 2) := by decide +kernel
theorem d_law_644 : decode code 644 = .ok (.iconst 1, 1) := by decide +kernel
theorem d_law_645 : decode code 645 = .ok (.iadd, 1) := by decide +kernel
theorem d_law_646 : decode code 646 = .ok (.iaload, 1) := by decide +kernel
theorem d_law_647 : decode code 647 = .ok (.aload_n 0, 1) := by decide +kernel
theorem d_law_648 : decode code 648 = .ok (.iload 4, 2) := by decide +kernel
theorem d_law_650 : decode code 650 = .ok (.iconst 2, 1) := by decide +kernel
theorem d_law_651 : decode code 651 = .ok (.iadd, 1) := by decide +kernel
theorem d_law_652 : decode code 652 = .ok (.iaload, 1) := by decide +kernel
theorem d_law_653 : decode code 653 = .ok (.aload_n 3, 1) := by decide +kernel
theorem d_law_654 : decode code 654 = .ok (.invokestatic 73, 3) := by decide +kernel
theorem d_law_657 : decode code 657 = .ok (.istore 5, 2) := by decide +kernel
theorem d_law_659 : decode code 659 = .ok (.aload_n 2, 1) := by decide +kernel
theorem d_law_660 : decode code 660 = .ok (.aload_n 0, 1) := by decide +kernel
theorem d_law_661 : decode code 661 = .ok (.iload 4, 2) := by decide +kernel
theorem d_law_663 : decode code 663 = .ok (.iconst 1, 1) := by decide +kernel
theorem d_law_664 : decode code 664 = .ok (.iadd, 1) := by decide +kernel
theorem d_law_665 : decode code 665 = .ok (.iaload, 1) := by decide +kernel
theorem d_law_666 : decode code 666 = .ok (.aload_n 0, 1) := by decide +kernel
theorem d_law_667 : decode code 667 = .ok (.iload 4, 2) := by decide +kernel
theorem d_law_669 : decode code 669 = .ok (.iconst 2, 1) := by decide +kernel
theorem d_law_670 : decode code 670 = .ok (.iadd, 1) := by decide +kernel
theorem d_law_671 : decode code 671 = .ok (.iaload, 1) := by decide +kernel
theorem d_law_672 : decode code 672 = .ok (.invokevirtual 76, 3) := by decide +kernel
theorem d_law_675 : decode code 675 = .ok (.istore 6, 2) := by decide +kernel
theorem d_law_677 : decode code 677 = .ok (.aload_n 2, 1) := by decide +kernel
theorem d_law_678 : decode code 678 = .ok (.invokevirtual 57, 3) := by decide +kernel
theorem d_law_681 : decode code 681 = .ok (.iload 5, 2) := by decide +kernel
theorem d_law_683 : decode code 683 = .ok (.if_icmp .eq 5, 3) := by decide +kernel
theorem d_law_686 : decode code 686 = .ok (.iconst 0, 1) := by decide +kernel
theorem d_law_687 : decode code 687 = .ok (.ireturn, 1) := by decide +kernel
theorem d_law_688 : decode code 688 = .ok (.iload 5, 2) := by decide +kernel
theorem d_law_690 : decode code 690 = .ok (.ifCond .ne 15, 3) := by decide +kernel
theorem d_law_693 : decode code 693 = .ok (.aload_n 3, 1) := by decide +kernel
theorem d_law_694 : decode code 694 = .ok (.iconst 0, 1) := by decide +kernel
theorem d_law_695 : decode code 695 = .ok (.laload, 1) := by decide +kernel
theorem d_law_696 : decode code 696 = .ok (.iload 6, 2) := by decide +kernel
theorem d_law_698 : decode code 698 = .ok (.i2l, 1) := by decide +kernel
theorem d_law_699 : decode code 699 = .ok (.lcmp, 1) := by decide +kernel
theorem d_law_700 : decode code 700 = .ok (.ifCond .eq 5, 3) := by decide +kernel
theorem d_law_703 : decode code 703 = .ok (.iconst 0, 1) := by decide +kernel
theorem d_law_704 : decode code 704 = .ok (.ireturn, 1) := by decide +kernel
theorem d_law_705 : decode code 705 = .ok (.goto 53, 3) := by decide +kernel
theorem d_law_708 : decode code 708 = .ok (.aload_n 1, 1) := by decide +kernel
theorem d_law_709 : decode code 709 = .ok (.aload_n 0, 1) := by decide +kernel
theorem d_law_710 : decode code 710 = .ok (.iload 4, 2) := by decide +kernel
theorem d_law_712 : decode code 712 = .ok (.iconst 1, 1) := by decide +kernel
theorem d_law_713 : decode code 713 = .ok (.iadd, 1) := by decide +kernel
theorem d_law_714 : decode code 714 = .ok (.iaload, 1) := by decide +kernel
theorem d_law_715 : decode code 715 = .ok (.invokevirtual 77, 3) := by decide +kernel
theorem d_law_718 : decode code 718 = .ok (.aload_n 2, 1) := by decide +kernel
theorem d_law_719 : decode code 719 = .ok (.aload_n 0, 1) := by decide +kernel
theorem d_law_720 : decode code 720 = .ok (.iload 4, 2) := by decide +kernel
theorem d_law_722 : decode code 722 = .ok (.iconst 1, 1) := by decide +kernel
theorem d_law_723 : decode code 723 = .ok (.iadd, 1) := by decide +kernel
theorem d_law_724 : decode code 724 = .ok (.iaload, 1) := by decide +kernel
theorem d_law_725 : decode code 725 = .ok (.invokevirtual 80, 3) := by decide +kernel
theorem d_law_728 : decode code 728 = .ok (.if_icmp .eq 30, 3) := by decide +kernel
theorem d_law_731 : decode code 731 = .ok (.iconst 0, 1) := by decide +kernel
theorem d_law_732 : decode code 732 = .ok (.ireturn, 1) := by decide +kernel
theorem d_law_733 : decode code 733 = .ok (.aload_n 1, 1) := by decide +kernel
theorem d_law_734 : decode code 734 = .ok (.aload_n 0, 1) := by decide +kernel
theorem d_law_735 : decode code 735 = .ok (.iload 4, 2) := by decide +kernel
theorem d_law_737 : decode code 737 = .ok (.iconst 1, 1) := by decide +kernel
theorem d_law_738 : decode code 738 = .ok (.iadd, 1) := by decide +kernel
theorem d_law_739 : decode code 739 = .ok (.iaload, 1) := by decide +kernel
theorem d_law_740 : decode code 740 = .ok (.invokevirtual 81, 3) := by decide +kernel
theorem d_law_743 : decode code 743 = .ok (.aload_n 2, 1) := by decide +kernel
theorem d_law_744 : decode code 744 = .ok (.aload_n 0, 1) := by decide +kernel
theorem d_law_745 : decode code 745 = .ok (.iload 4, 2) := by decide +kernel
theorem d_law_747 : decode code 747 = .ok (.iconst 1, 1) := by decide +kernel
theorem d_law_748 : decode code 748 = .ok (.iadd, 1) := by decide +kernel
theorem d_law_749 : decode code 749 = .ok (.iaload, 1) := by decide +kernel
theorem d_law_750 : decode code 750 = .ok (.invokevirtual 84, 3) := by decide +kernel
theorem d_law_753 : decode code 753 = .ok (.if_icmp .eq 5, 3) := by decide +kernel
theorem d_law_756 : decode code 756 = .ok (.iconst 0, 1) := by decide +kernel
theorem d_law_757 : decode code 757 = .ok (.ireturn, 1) := by decide +kernel
theorem d_law_758 : decode code 758 = .ok (.iinc 4 7, 3) := by decide +kernel
theorem d_law_761 : decode code 761 = .ok (.goto (-738), 3) := by decide +kernel
theorem d_law_764 : decode code 764 = .ok (.iconst 1, 1) := by decide +kernel
theorem d_law_765 : decode code 765 = .ok (.ireturn, 1) := by decide +kernel
theorem g_law_29 : GoodIn lw_tbl w_F_init := ws_goodL (ex := []) rfl ic_F_init rfl
theorem g_law_32 : GoodIn lw_tbl w_M_init := ws_goodL (ex := []) rfl ic_M_init rfl
set_option maxRecDepth 20000 in
theorem g_law_33 : GoodIn lw_tbl (wsV R_L 33 R_F y_F_product w_F_product) := ws_goodL (by decide +kernel) ic_F_product rfl
set_option maxRecDepth 20000 in
theorem g_law_36 : GoodIn lw_tbl (wsV R_L 36 R_M y_M_product w_M_product) := ws_goodL (by decide +kernel) ic_M_product rfl
set_option maxRecDepth 20000 in
theorem g_law_37 : GoodIn lw_tbl (wsV R_L 37 R_F y_F_quotient w_F_quotient) := ws_goodL (by decide +kernel) ic_F_quotient rfl
set_option maxRecDepth 20000 in
theorem g_law_40 : GoodIn lw_tbl (wsV R_L 40 R_M y_M_quotient w_M_quotient) := ws_goodL (by decide +kernel) ic_M_quotient rfl
set_option maxRecDepth 20000 in
theorem g_law_41 : GoodIn lw_tbl (wsV R_L 41 R_F y_F_root w_F_root) := ws_goodL (by decide +kernel) ic_F_root rfl
set_option maxRecDepth 20000 in
theorem g_law_44 : GoodIn lw_tbl (wsV R_L 44 R_M y_M_root w_M_root) := ws_goodL (by decide +kernel) ic_M_root rfl
set_option maxRecDepth 20000 in
theorem g_law_45 : GoodIn lw_tbl (wsV R_L 45 R_F y_F_oneByRoot w_F_oneByRoot) := ws_goodL (by decide +kernel) ic_F_oneByRoot rfl
set_option maxRecDepth 20000 in
theorem g_law_48 : GoodIn lw_tbl (wsV R_L 48 R_M y_M_oneByRoot w_M_oneByRoot) := ws_goodL (by decide +kernel) ic_M_oneByRoot rfl
set_option maxRecDepth 20000 in
theorem g_law_51 : GoodIn lw_tbl (wsS R_L 51 y_L_ratio w_L_ratio) := ws_goodL (by decide +kernel) ic_L_ratio rfl
set_option maxRecDepth 20000 in
theorem g_law_56 : GoodIn lw_tbl (wsV R_L 56 R_M y_M_ratio w_M_ratio) := ws_goodL (by decide +kernel) ic_M_ratio rfl
set_option maxRecDepth 20000 in
theorem g_law_57 : GoodIn lw_tbl (wsV R_L 57 R_M y_M_thrown w_M_thrown) := ws_goodL (by decide +kernel) ic_M_thrown rfl
set_option maxRecDepth 20000 in
theorem g_law_61 : GoodIn lw_tbl (wsS R_L 61 y_L_between w_L_between) := ws_goodL (by decide +kernel) ic_L_between rfl
set_option maxRecDepth 20000 in
theorem g_law_64 : GoodIn lw_tbl (wsV R_L 64 R_M y_M_between w_M_between) := ws_goodL (by decide +kernel) ic_M_between rfl
set_option maxRecDepth 20000 in
theorem g_law_65 : GoodIn lw_tbl (wsV R_L 65 R_F y_F_channel w_F_channel) := ws_goodL (by decide +kernel) ic_F_channel rfl
set_option maxRecDepth 20000 in
theorem g_law_68 : GoodIn lw_tbl (wsV R_L 68 R_M y_M_channel w_M_channel) := ws_goodL (by decide +kernel) ic_M_channel rfl
set_option maxRecDepth 20000 in
theorem g_law_69 : GoodIn lw_tbl (wsS R_L 69 y_L_fixed w_L_fixed) := ws_goodL (by decide +kernel) ic_L_fixed rfl
set_option maxRecDepth 20000 in
theorem g_law_72 : GoodIn lw_tbl (wsV R_L 72 R_M y_M_fixed w_M_fixed) := ws_goodL (by decide +kernel) ic_M_fixed rfl
set_option maxRecDepth 20000 in
theorem g_law_73 : GoodIn lw_tbl (wsS R_L 73 y_L_shade w_L_shade) := ws_goodL (by decide +kernel) ic_L_shade rfl
set_option maxRecDepth 20000 in
theorem g_law_76 : GoodIn lw_tbl (wsV R_L 76 R_M y_M_shade w_M_shade) := ws_goodL (by decide +kernel) ic_M_shade rfl
set_option maxRecDepth 20000 in
theorem g_law_77 : GoodIn lw_tbl (wsV R_L 77 R_F y_F_fromHalf w_F_fromHalf) := ws_goodL (by decide +kernel) ic_F_fromHalf rfl
set_option maxRecDepth 20000 in
theorem g_law_80 : GoodIn lw_tbl (wsV R_L 80 R_M y_M_fromHalf w_M_fromHalf) := ws_goodL (by decide +kernel) ic_M_fromHalf rfl
set_option maxRecDepth 20000 in
theorem g_law_81 : GoodIn lw_tbl (wsV R_L 81 R_F y_F_toHalf w_F_toHalf) := ws_goodL (by decide +kernel) ic_F_toHalf rfl
set_option maxRecDepth 20000 in
theorem g_law_84 : GoodIn lw_tbl (wsV R_L 84 R_M y_M_toHalf w_M_toHalf) := ws_goodL (by decide +kernel) ic_M_toHalf rfl
