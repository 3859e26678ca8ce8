theorem dL_isStep_586 : decode cL_isStep 586 = .ok (.bipush 40, 2) := by decide +kernel
theorem dL_isStep_588 : decode cL_isStep 588 = .ok (.goto 4, 3) := by decide +kernel
theorem dL_isStep_591 : decode cL_isStep 591 = .ok (.iconst 3, 1) := by decide +kernel
theorem dL_isStep_592 : decode cL_isStep 592 = .ok (.invokestatic 35, 3) := by decide +kernel
theorem dL_isStep_595 : decode cL_isStep 595 = .ok (.iadd, 1) := by decide +kernel
theorem dL_isStep_596 : decode cL_isStep 596 = .ok (.istore 7, 2) := by decide +kernel
theorem dL_isStep_598 : decode cL_isStep 598 = .ok (.aload_n 0, 1) := by decide +kernel
theorem dL_isStep_599 : decode cL_isStep 599 = .ok (.invokevirtual 56, 3) := by decide +kernel
theorem dL_isStep_602 : decode cL_isStep 602 = .ok (.istore 8, 2) := by decide +kernel
theorem dL_isStep_604 : decode cL_isStep 604 = .ok (.aload_n 0, 1) := by decide +kernel
theorem dL_isStep_605 : decode cL_isStep 605 = .ok (.iconst 0, 1) := by decide +kernel
theorem dL_isStep_606 : decode cL_isStep 606 = .ok (.invokevirtual 31, 3) := by decide +kernel
theorem dL_isStep_609 : decode cL_isStep 609 = .ok (.istore 9, 2) := by decide +kernel
theorem dL_isStep_611 : decode cL_isStep 611 = .ok (.aload_n 0, 1) := by decide +kernel
theorem dL_isStep_612 : decode cL_isStep 612 = .ok (.iload 7, 2) := by decide +kernel
theorem dL_isStep_614 : decode cL_isStep 614 = .ok (.invokevirtual 59, 3) := by decide +kernel
theorem dL_isStep_617 : decode cL_isStep 617 = .ok (.istore 10, 2) := by decide +kernel
theorem dL_isStep_619 : decode cL_isStep 619 = .ok (.iload 10, 2) := by decide +kernel
theorem dL_isStep_621 : decode cL_isStep 621 = .ok (.aload_n 0, 1) := by decide +kernel
theorem dL_isStep_622 : decode cL_isStep 622 = .ok (.iconst 1, 1) := by decide +kernel
theorem dL_isStep_623 : decode cL_isStep 623 = .ok (.invokevirtual 31, 3) := by decide +kernel
theorem dL_isStep_626 : decode cL_isStep 626 = .ok (.if_icmp .ne 43, 3) := by decide +kernel
theorem dL_isStep_629 : decode cL_isStep 629 = .ok (.aload_n 0, 1) := by decide +kernel
theorem dL_isStep_630 : decode cL_isStep 630 = .ok (.iconst 0, 1) := by decide +kernel
theorem dL_isStep_631 : decode cL_isStep 631 = .ok (.invokevirtual 31, 3) := by decide +kernel
theorem dL_isStep_634 : decode cL_isStep 634 = .ok (.iload 9, 2) := by decide +kernel
theorem dL_isStep_636 : decode cL_isStep 636 = .ok (.iload 7, 2) := by decide +kernel
theorem dL_isStep_638 : decode cL_isStep 638 = .ok (.iadd, 1) := by decide +kernel
theorem dL_isStep_639 : decode cL_isStep 639 = .ok (.if_icmp .ne 30, 3) := by decide +kernel
theorem dL_isStep_642 : decode cL_isStep 642 = .ok (.aload_n 0, 1) := by decide +kernel
theorem dL_isStep_643 : decode cL_isStep 643 = .ok (.invokevirtual 56, 3) := by decide +kernel
theorem dL_isStep_646 : decode cL_isStep 646 = .ok (.iload 8, 2) := by decide +kernel
theorem dL_isStep_648 : decode cL_isStep 648 = .ok (.iload 7, 2) := by decide +kernel
theorem dL_isStep_650 : decode cL_isStep 650 = .ok (.if_icmp .le 11, 3) := by decide +kernel
theorem dL_isStep_653 : decode cL_isStep 653 = .ok (.iload 8, 2) := by decide +kernel
theorem dL_isStep_655 : decode cL_isStep 655 = .ok (.iload 7, 2) := by decide +kernel
theorem dL_isStep_657 : decode cL_isStep 657 = .ok (.isub, 1) := by decide +kernel
theorem dL_isStep_658 : decode cL_isStep 658 = .ok (.goto 4, 3) := by decide +kernel
theorem dL_isStep_661 : decode cL_isStep 661 = .ok (.iconst 0, 1) := by decide +kernel
theorem dL_isStep_662 : decode cL_isStep 662 = .ok (.if_icmp .ne 7, 3) := by decide +kernel
theorem dL_isStep_665 : decode cL_isStep 665 = .ok (.iconst 1, 1) := by decide +kernel
theorem dL_isStep_666 : decode cL_isStep 666 = .ok (.goto 4, 3) := by decide +kernel
theorem dL_isStep_669 : decode cL_isStep 669 = .ok (.iconst 0, 1) := by decide +kernel
theorem dL_isStep_670 : decode cL_isStep 670 = .ok (.istore 11, 2) := by decide +kernel
theorem dL_isStep_672 : decode cL_isStep 672 = .ok (.iconst 0, 1) := by decide +kernel
theorem dL_isStep_673 : decode cL_isStep 673 = .ok (.istore 12, 2) := by decide +kernel
theorem dL_isStep_675 : decode cL_isStep 675 = .ok (.iload 12, 2) := by decide +kernel
theorem dL_isStep_677 : decode cL_isStep 677 = .ok (.iload 7, 2) := by decide +kernel
theorem dL_isStep_679 : decode cL_isStep 679 = .ok (.if_icmp .ge 29, 3) := by decide +kernel
theorem dL_isStep_682 : decode cL_isStep 682 = .ok (.iload 11, 2) := by decide +kernel
theorem dL_isStep_684 : decode cL_isStep 684 = .ok (.ifCond .eq 15, 3) := by decide +kernel
theorem dL_isStep_687 : decode cL_isStep 687 = .ok (.aload_n 1, 1) := by decide +kernel
theorem dL_isStep_688 : decode cL_isStep 688 = .ok (.iconst 1, 1) := by decide +kernel
theorem dL_isStep_689 : decode cL_isStep 689 = .ok (.invokevirtual 59, 3) := by decide +kernel
theorem dL_isStep_692 : decode cL_isStep 692 = .ok (.ifCond .lt 7, 3) := by decide +kernel
theorem dL_isStep_695 : decode cL_isStep 695 = .ok (.iconst 1, 1) := by decide +kernel
theorem dL_isStep_696 : decode cL_isStep 696 = .ok (.goto 4, 3) := by decide +kernel
theorem dL_isStep_699 : decode cL_isStep 699 = .ok (.iconst 0, 1) := by decide +kernel
theorem dL_isStep_700 : decode cL_isStep 700 = .ok (.istore 11, 2) := by decide +kernel
theorem dL_isStep_702 : decode cL_isStep 702 = .ok (.iinc 12 1, 3) := by decide +kernel
theorem dL_isStep_705 : decode cL_isStep 705 = .ok (.goto (-30), 3) := by decide +kernel
theorem dL_isStep_708 : decode cL_isStep 708 = .ok (.iload 11, 2) := by decide +kernel
theorem dL_isStep_710 : decode cL_isStep 710 = .ok (.ifCond .eq 38, 3) := by decide +kernel
theorem dL_isStep_713 : decode cL_isStep 713 = .ok (.aload_n 0, 1) := by decide +kernel
theorem dL_isStep_714 : decode cL_isStep 714 = .ok (.iconst 2, 1) := by decide +kernel
theorem dL_isStep_715 : decode cL_isStep 715 = .ok (.invokevirtual 31, 3) := by decide +kernel
theorem dL_isStep_718 : decode cL_isStep 718 = .ok (.iload 6, 2) := by decide +kernel
theorem dL_isStep_720 : decode cL_isStep 720 = .ok (.iload 10, 2) := by decide +kernel
theorem dL_isStep_722 : decode cL_isStep 722 = .ok (.iload 5, 2) := by decide +kernel
theorem dL_isStep_724 : decode cL_isStep 724 = .ok (.if_icmp .le 11, 3) := by decide +kernel
theorem dL_isStep_727 : decode cL_isStep 727 = .ok (.iload 10, 2) := by decide +kernel
theorem dL_isStep_729 : decode cL_isStep 729 = .ok (.iload 5, 2) := by decide +kernel
theorem dL_isStep_731 : decode cL_isStep 731 = .ok (.isub, 1) := by decide +kernel
theorem dL_isStep_732 : decode cL_isStep 732 = .ok (.goto 8, 3) := by decide +kernel
theorem dL_isStep_735 : decode cL_isStep 735 = .ok (.iload 5, 2) := by decide +kernel
theorem dL_isStep_737 : decode cL_isStep 737 = .ok (.iload 10, 2) := by decide +kernel
theorem dL_isStep_739 : decode cL_isStep 739 = .ok (.isub, 1) := by decide +kernel
theorem dL_isStep_740 : decode cL_isStep 740 = .ok (.iadd, 1) := by decide +kernel
theorem dL_isStep_741 : decode cL_isStep 741 = .ok (.if_icmp .lt 7, 3) := by decide +kernel
theorem dL_isStep_744 : decode cL_isStep 744 = .ok (.iconst 1, 1) := by decide +kernel
theorem dL_isStep_745 : decode cL_isStep 745 = .ok (.goto 4, 3) := by decide +kernel
theorem dL_isStep_748 : decode cL_isStep 748 = .ok (.iconst 0, 1) := by decide +kernel
theorem dL_isStep_749 : decode cL_isStep 749 = .ok (.ireturn, 1) := by decide +kernel
theorem dL_isStep_750 : decode cL_isStep 750 = .ok (.aload_n 0, 1) := by decide +kernel
theorem dL_isStep_751 : decode cL_isStep 751 = .ok (.aload_n 1, 1) := by decide +kernel
theorem dL_isStep_752 : decode cL_isStep 752 = .ok (.invokestatic 62, 3) := by decide +kernel
theorem dL_isStep_755 : decode cL_isStep 755 = .ok (.ireturn, 1) := by decide +kernel
theorem dL_isStep_756 : decode cL_isStep 756 = .ok (.iload_n 3, 1) := by decide +kernel
theorem dL_isStep_757 : decode cL_isStep 757 = .ok (.iconst 2, 1) := by decide +kernel
theorem dL_isStep_758 : decode cL_isStep 758 = .ok (.invokestatic 35, 3) := by decide +kernel
theorem dL_isStep_761 : decode cL_isStep 761 = .ok (.ifCond .ne 22, 3) := by decide +kernel
theorem dL_isStep_764 : decode cL_isStep 764 = .ok (.aload_n 0, 1) := by decide +kernel
theorem dL_isStep_765 : decode cL_isStep 765 = .ok (.invokevirtual 66, 3) := by decide +kernel
theorem dL_isStep_768 : decode cL_isStep 768 = .ok (.aload_n 1, 1) := by decide +kernel
theorem dL_isStep_769 : decode cL_isStep 769 = .ok (.invokevirtual 66, 3) := by decide +kernel
theorem dL_isStep_772 : decode cL_isStep 772 = .ok (.if_icmp .ne 7, 3) := by decide +kernel
theorem dL_isStep_775 : decode cL_isStep 775 = .ok (.iconst 1, 1) := by decide +kernel
theorem dL_isStep_776 : decode cL_isStep 776 = .ok (.goto 23, 3) := by decide +kernel
theorem dL_isStep_779 : decode cL_isStep 779 = .ok (.iconst 0, 1) := by decide +kernel
theorem dL_isStep_780 : decode cL_isStep 780 = .ok (.goto 19, 3) := by decide +kernel
theorem dL_isStep_783 : decode cL_isStep 783 = .ok (.aload_n 0, 1) := by decide +kernel
theorem dL_isStep_784 : decode cL_isStep 784 = .ok (.invokevirtual 69, 3) := by decide +kernel
theorem dL_isStep_787 : decode cL_isStep 787 = .ok (.aload_n 1, 1) := by decide +kernel
theorem dL_isStep_788 : decode cL_isStep 788 = .ok (.invokevirtual 69, 3) := by decide +kernel
theorem dL_isStep_791 : decode cL_isStep 791 = .ok (.if_icmp .ne 7, 3) := by decide +kernel
theorem dL_isStep_794 : decode cL_isStep 794 = .ok (.iconst 1, 1) := by decide +kernel
theorem dL_isStep_795 : decode cL_isStep 795 = .ok (.goto 4, 3) := by decide +kernel
theorem dL_isStep_798 : decode cL_isStep 798 = .ok (.iconst 0, 1) := by decide +kernel
theorem dL_isStep_799 : decode cL_isStep 799 = .ok (.ireturn, 1) := by decide +kernel
theorem dL_isStep_800 : decode cL_isStep 800 = .ok (.iload_n 3, 1) := by decide +kernel
theorem dL_isStep_801 : decode cL_isStep 801 = .ok (.bipush 24, 2) := by decide +kernel
theorem dL_isStep_803 : decode cL_isStep 803 = .ok (.invokestatic 35, 3) := by decide +kernel
theorem dL_isStep_806 : decode cL_isStep 806 = .ok (.istore 7, 2) := by decide +kernel
theorem dL_isStep_808 : decode cL_isStep 808 = .ok (.iload_n 3, 1) := by decide +kernel
theorem dL_isStep_809 : decode cL_isStep 809 = .ok (.iconst 5, 1) := by decide +kernel
theorem dL_isStep_810 : decode cL_isStep 810 = .ok (.ishr, 1) := by decide +kernel
theorem dL_isStep_811 : decode cL_isStep 811 = .ok (.bipush 12, 2) := by decide +kernel
theorem dL_isStep_813 : decode cL_isStep 813 = .ok (.invokestatic 35, 3) := by decide +kernel
theorem dL_isStep_816 : decode cL_isStep 816 = .ok (.istore 8, 2) := by decide +kernel
theorem dL_isStep_818 : decode cL_isStep 818 = .ok (.iload 4, 2) := by decide +kernel
theorem dL_isStep_820 : decode cL_isStep 820 = .ok (.iconst 3, 1) := by decide +kernel
theorem dL_isStep_821 : decode cL_isStep 821 = .ok (.invokestatic 35, 3) := by decide +kernel
theorem dL_isStep_824 : decode cL_isStep 824 = .ok (.ifCond .ne 9, 3) := by decide +kernel
theorem dL_isStep_827 : decode cL_isStep 827 = .ok (.sipush 255, 3) := by decide +kernel
theorem dL_isStep_830 : decode cL_isStep 830 = .ok (.goto 13, 3) := by decide +kernel
theorem dL_isStep_833 : decode cL_isStep 833 = .ok (.iload_n 3, 1) := by decide +kernel
theorem dL_isStep_834 : decode cL_isStep 834 = .ok (.bipush 9, 2) := by decide +kernel
theorem dL_isStep_836 : decode cL_isStep 836 = .ok (.ishr, 1) := by decide +kernel
theorem dL_isStep_837 : decode cL_isStep 837 = .ok (.sipush 256, 3) := by decide +kernel
theorem dL_isStep_840 : decode cL_isStep 840 = .ok (.invokestatic 35, 3) := by decide +kernel
theorem dL_isStep_843 : decode cL_isStep 843 = .ok (.istore 9, 2) := by decide +kernel
theorem dL_isStep_845 : decode cL_isStep 845 = .ok (.iconst 1, 1) := by decide +kernel
theorem dL_isStep_846 : decode cL_isStep 846 = .ok (.iload 4, 2) := by decide +kernel
theorem dL_isStep_848 : decode cL_isStep 848 = .ok (.iconst 3, 1) := by decide +kernel
theorem dL_isStep_849 : decode cL_isStep 849 = .ok (.invokestatic 35, 3) := by decide +kernel
theorem dL_isStep_852 : decode cL_isStep 852 = .ok (.iadd, 1) := by decide +kernel
theorem dL_isStep_853 : decode cL_isStep 853 = .ok (.istore 10, 2) := by decide +kernel
theorem dL_isStep_855 : decode cL_isStep 855 = .ok (.iconst 1, 1) := by decide +kernel
theorem dL_isStep_856 : decode cL_isStep 856 = .ok (.iload 4, 2) := by decide +kernel
theorem dL_isStep_858 : decode cL_isStep 858 = .ok (.iconst 3, 1) := by decide +kernel
theorem dL_isStep_859 : decode cL_isStep 859 = .ok (.ishr, 1) := by decide +kernel
theorem dL_isStep_860 : decode cL_isStep 860 = .ok (.iconst 3, 1) := by decide +kernel
theorem dL_isStep_861 : decode cL_isStep 861 = .ok (.invokestatic 35, 3) := by decide +kernel
theorem dL_isStep_864 : decode cL_isStep 864 = .ok (.iadd, 1) := by decide +kernel
theorem dL_isStep_865 : decode cL_isStep 865 = .ok (.istore 11, 2) := by decide +kernel
theorem dL_isStep_867 : decode cL_isStep 867 = .ok (.iconst 0, 1) := by decide +kernel
theorem dL_isStep_868 : decode cL_isStep 868 = .ok (.istore 12, 2) := by decide +kernel
theorem dL_isStep_870 : decode cL_isStep 870 = .ok (.iconst 1, 1) := by decide +kernel
theorem dL_isStep_871 : decode cL_isStep 871 = .ok (.istore 13, 2) := by decide +kernel
theorem dL_isStep_873 : decode cL_isStep 873 = .ok (.iconst 0, 1) := by decide +kernel
theorem dL_isStep_874 : decode cL_isStep 874 = .ok (.istore 14, 2) := by decide +kernel
theorem dL_isStep_876 : decode cL_isStep 876 = .ok (.iload 14, 2) := by decide +kernel
theorem dL_isStep_878 : decode cL_isStep 878 = .ok (.iload 10, 2) := by decide +kernel
theorem dL_isStep_880 : decode cL_isStep 880 = .ok (.iload 11, 2) := by decide +kernel
theorem dL_isStep_882 : decode cL_isStep 882 = .ok (.imul, 1) := by decide +kernel
theorem dL_isStep_883 : decode cL_isStep 883 = .ok (.if_icmp .ge 116, 3) := by decide +kernel
theorem dL_isStep_886 : decode cL_isStep 886 = .ok (.iload 7, 2) := by decide +kernel
theorem dL_isStep_888 : decode cL_isStep 888 = .ok (.iload 14, 2) := by decide +kernel
theorem dL_isStep_890 : decode cL_isStep 890 = .ok (.iload 10, 2) := by decide +kernel
theorem dL_isStep_892 : decode cL_isStep 892 = .ok (.irem, 1) := by decide +kernel
theorem dL_isStep_893 : decode cL_isStep 893 = .ok (.iadd, 1) := by decide +kernel
theorem dL_isStep_894 : decode cL_isStep 894 = .ok (.istore 15, 2) := by decide +kernel
theorem dL_isStep_896 : decode cL_isStep 896 = .ok (.iload 8, 2) := by decide +kernel
theorem dL_isStep_898 : decode cL_isStep 898 = .ok (.iload 14, 2) := by decide +kernel
theorem dL_isStep_900 : decode cL_isStep 900 = .ok (.iload 10, 2) := by decide +kernel
theorem dL_isStep_902 : decode cL_isStep 902 = .ok (.idiv, 1) := by decide +kernel
theorem dL_isStep_903 : decode cL_isStep 903 = .ok (.iadd, 1) := by decide +kernel
theorem dL_isStep_904 : decode cL_isStep 904 = .ok (.istore 16, 2) := by decide +kernel
theorem dL_isStep_906 : decode cL_isStep 906 = .ok (.aload_n 0, 1) := by decide +kernel
theorem dL_isStep_907 : decode cL_isStep 907 = .ok (.iload 15, 2) := by decide +kernel
theorem dL_isStep_909 : decode cL_isStep 909 = .ok (.iload 16, 2) := by decide +kernel
theorem dL_isStep_911 : decode cL_isStep 911 = .ok (.iconst 0, 1) := by decide +kernel
theorem dL_isStep_912 : decode cL_isStep 912 = .ok (.invokevirtual 52, 3) := by decide +kernel
theorem dL_isStep_915 : decode cL_isStep 915 = .ok (.istore 17, 2) := by decide +kernel
theorem dL_isStep_917 : decode cL_isStep 917 = .ok (.aload_n 0, 1) := by decide +kernel
theorem dL_isStep_918 : decode cL_isStep 918 = .ok (.iload 15, 2) := by decide +kernel
theorem dL_isStep_920 : decode cL_isStep 920 = .ok (.iload 16, 2) := by decide +kernel
theorem dL_isStep_922 : decode cL_isStep 922 = .ok (.iload 9, 2) := by decide +kernel
theorem dL_isStep_924 : decode cL_isStep 924 = .ok (.invokevirtual 72, 3) := by decide +kernel
theorem dL_isStep_927 : decode cL_isStep 927 = .ok (.istore 18, 2) := by decide +kernel
theorem dL_isStep_929 : decode cL_isStep 929 = .ok (.iload 13, 2) := by decide +kernel
theorem dL_isStep_931 : decode cL_isStep 931 = .ok (.ifCond .eq 44, 3) := by decide +kernel
theorem dL_isStep_934 : decode cL_isStep 934 = .ok (.iload 18, 2) := by decide +kernel
theorem dL_isStep_936 : decode cL_isStep 936 = .ok (.iload 15, 2) := by decide +kernel
theorem dL_isStep_938 : decode cL_isStep 938 = .ok (.bipush 23, 2) := by decide +kernel
theorem dL_isStep_940 : decode cL_isStep 940 = .ok (.if_icmp .gt 10, 3) := by decide +kernel
theorem dL_isStep_943 : decode cL_isStep 943 = .ok (.iload 16, 2) := by decide +kernel
theorem dL_isStep_945 : decode cL_isStep 945 = .ok (.bipush 11, 2) := by decide +kernel
theorem dL_isStep_947 : decode cL_isStep 947 = .ok (.if_icmp .le 7, 3) := by decide +kernel
theorem dL_isStep_950 : decode cL_isStep 950 = .ok (.iconst (-1), 1) := by decide +kernel
theorem dL_isStep_951 : decode cL_isStep 951 = .ok (.goto 17, 3) := by decide +kernel
theorem dL_isStep_954 : decode cL_isStep 954 = .ok (.iload 17, 2) := by decide +kernel
theorem dL_isStep_956 : decode cL_isStep 956 = .ok (.iload 9, 2) := by decide +kernel
theorem dL_isStep_958 : decode cL_isStep 958 = .ok (.if_icmp .ne 8, 3) := by decide +kernel
theorem dL_isStep_961 : decode cL_isStep 961 = .ok (.bipush (-5), 2) := by decide +kernel
theorem dL_isStep_963 : decode cL_isStep 963 = .ok (.goto 5, 3) := by decide +kernel
theorem dL_isStep_966 : decode cL_isStep 966 = .ok (.iload 17, 2) := by decide +kernel
theorem dL_isStep_968 : decode cL_isStep 968 = .ok (.if_icmp .ne 7, 3) := by decide +kernel
theorem dL_isStep_971 : decode cL_isStep 971 = .ok (.iconst 1, 1) := by decide +kernel
theorem dL_isStep_972 : decode cL_isStep 972 = .ok (.goto 4, 3) := by decide +kernel
theorem dL_isStep_975 : decode cL_isStep 975 = .ok (.iconst 0, 1) := by decide +kernel
theorem dL_isStep_976 : decode cL_isStep 976 = .ok (.istore 13, 2) := by decide +kernel
theorem dL_isStep_978 : decode cL_isStep 978 = .ok (.iload 12, 2) := by decide +kernel
theorem dL_isStep_980 : decode cL_isStep 980 = .ok (.iload 18, 2) := by decide +kernel
theorem dL_isStep_982 : decode cL_isStep 982 = .ok (.ifCond .lt 7, 3) := by decide +kernel
theorem dL_isStep_985 : decode cL_isStep 985 = .ok (.iconst 1, 1) := by decide +kernel
theorem dL_isStep_986 : decode cL_isStep 986 = .ok (.goto 4, 3) := by decide +kernel
theorem dL_isStep_989 : decode cL_isStep 989 = .ok (.iconst 0, 1) := by decide +kernel
theorem dL_isStep_990 : decode cL_isStep 990 = .ok (.iadd, 1) := by decide +kernel
theorem dL_isStep_991 : decode cL_isStep 991 = .ok (.istore 12, 2) := by decide +kernel
theorem dL_isStep_993 : decode cL_isStep 993 = .ok (.iinc 14 1, 3) := by decide +kernel
theorem dL_isStep_996 : decode cL_isStep 996 = .ok (.goto (-120), 3) := by decide +kernel
theorem dL_isStep_999 : decode cL_isStep 999 = .ok (.iload 13, 2) := by decide +kernel
theorem dL_isStep_1001 : decode cL_isStep 1001 = .ok (.ifCond .eq 26, 3) := by decide +kernel
theorem dL_isStep_1004 : decode cL_isStep 1004 = .ok (.aload_n 1, 1) := by decide +kernel
theorem dL_isStep_1005 : decode cL_isStep 1005 = .ok (.iload 7, 2) := by decide +kernel
theorem dL_isStep_1007 : decode cL_isStep 1007 = .ok (.iload 8, 2) := by decide +kernel
theorem dL_isStep_1009 : decode cL_isStep 1009 = .ok (.iload 10, 2) := by decide +kernel
theorem dL_isStep_1011 : decode cL_isStep 1011 = .ok (.iload 11, 2) := by decide +kernel
theorem dL_isStep_1013 : decode cL_isStep 1013 = .ok (.iload 9, 2) := by decide +kernel
theorem dL_isStep_1015 : decode cL_isStep 1015 = .ok (.iload 12, 2) := by decide +kernel
theorem dL_isStep_1017 : decode cL_isStep 1017 = .ok (.invokestatic 75, 3) := by decide +kernel
theorem dL_isStep_1020 : decode cL_isStep 1020 = .ok (.ifCond .eq 7, 3) := by decide +kernel
theorem dL_isStep_1023 : decode cL_isStep 1023 = .ok (.iconst 1, 1) := by decide +kernel
theorem dL_isStep_1024 : decode cL_isStep 1024 = .ok (.goto 4, 3) := by decide +kernel
theorem dL_isStep_1027 : decode cL_isStep 1027 = .ok (.iconst 0, 1) := by decide +kernel
theorem dL_isStep_1028 : decode cL_isStep 1028 = .ok (.ireturn, 1) := by decide +kernel
set_option maxRecDepth 20000 in
theorem ggL_areAlike_X5_meanShown : GoodIn wsL_areAlike wsX5_meanShown := goodIn_r _ [5, 6, 7, 8, 9, 10, 11, 12, 13, 14, 15, 16, 17, 18, 19, 20, 21, 22, 23, 24, 25, 26, 27, 28, 29, 30, 31, 32, 33, 34, 35, 36, 37, 38, 39, 40, 4, 41, 42, 43, 44, 45, 46, 47, 48, 49, 50, 51, 52, 53, 54, 55, 56, 57, 58, 59, 60, 61, 62, 63, 64, 65, 66, 67, 68, 69, 70, 71, 72, 73, 74, 75, 76, 77, 78, 79, 80, 215, 216, 217, 218, 219, 220, 221, 222, 223, 224, 225, 226, 227, 228, 229, 230, 231, 232, 233, 234, 235] (by decide +kernel) (by decide +kernel)
set_option maxRecDepth 20000 in
theorem gL_areAlike_X5_meanShown : GoodIn wsL_areAlike (wsV RL 79 RX5 yX5_meanShown wsX5_meanShown) := goodIn_app (goodIn_of _ (by decide +kernel)) ggL_areAlike_X5_meanShown
set_option maxRecDepth 20000 in
theorem ggL_areAlike_X5_restsIn : GoodIn wsL_areAlike wsX5_restsIn := goodIn_r _ [84, 7, 85, 86, 87, 88, 4, 89, 90, 91, 92, 42, 43, 44, 45, 46, 47, 48, 93, 94, 95, 96, 97, 98, 99, 100, 101, 102, 103, 104, 32, 105, 106, 63, 54, 55, 56, 57, 58, 107, 108, 109, 110, 111, 52, 53, 112, 113, 114, 115, 116, 117, 118, 119, 120, 121, 122, 123, 124, 125, 36, 37, 38, 39, 40, 41, 49, 50, 51, 126, 127, 128, 129, 130, 131, 132, 67, 68, 133, 134, 135, 136, 137, 138, 139, 140, 141, 142, 143, 144, 145, 70, 71, 72, 66, 215, 216, 217, 218, 219, 220, 221, 222, 223, 229, 230, 231, 232, 233, 234, 235, 236, 237] (by decide +kernel) (by decide +kernel)
set_option maxRecDepth 20000 in
theorem gL_areAlike_X5_restsIn : GoodIn wsL_areAlike (wsV RL 56 RX5 yX5_restsIn wsX5_restsIn) := goodIn_app (goodIn_of _ (by decide +kernel)) ggL_areAlike_X5_restsIn
set_option maxRecDepth 20000 in
theorem ggL_areAlike_X5_bestRule : GoodIn wsL_areAlike wsX5_bestRule := goodIn_r _ [149, 150, 7, 85, 6, 151, 152, 153, 154, 32, 155, 106, 156, 157, 158, 159, 34, 39, 160, 161, 162, 163, 164, 165, 166, 4, 167, 90, 91, 92, 168, 93, 94, 95, 96, 97, 98, 99, 100, 101, 102, 103, 104, 105, 63, 47, 44, 48, 54, 55, 56, 57, 58, 107, 108, 109, 110, 111, 52, 53, 112, 113, 114, 115, 116, 117, 118, 119, 120, 121, 122, 123, 124, 125, 36, 37, 38, 40, 41, 42, 43, 45, 46, 49, 50, 51, 126, 127, 128, 129, 130, 131, 132, 67, 68, 133, 134, 135, 136, 137, 138, 139, 140, 141, 142, 143, 144, 145, 70, 71, 72, 10, 11, 12, 13, 14, 15, 16, 17, 18, 19, 20, 21, 22, 23, 24, 25, 26, 27, 28, 29, 30, 31, 33, 35, 59, 60, 61, 62, 64, 65, 66, 69, 73, 74, 75, 76, 77, 78, 79, 80, 169, 170, 171, 172, 215, 216, 217, 218, 219, 220, 221, 222, 223, 229, 230, 231, 232, 233, 234, 235, 224, 225, 226, 227, 228, 236, 237] (by decide +kernel) (by decide +kernel)
set_option maxRecDepth 20000 in
theorem gL_areAlike_X5_bestRule : GoodIn wsL_areAlike (wsV RL 83 RX5 yX5_bestRule wsX5_bestRule) := goodIn_app (goodIn_of _ (by decide +kernel)) ggL_areAlike_X5_bestRule
set_option maxRecDepth 20000 in
theorem ggL_areAlike_X5_leastStep : GoodIn wsL_areAlike wsX5_leastStep := goodIn_r _ [176, 86, 87, 88, 4, 89, 90, 7, 91, 92, 42, 43, 44, 45, 46, 47, 48, 93, 94, 95, 96, 97, 98, 99, 100, 101, 102, 103, 104, 32, 105, 106, 63, 54, 55, 56, 57, 58, 107, 108, 109, 110, 111, 52, 53, 112, 113, 114, 115, 116, 117, 118, 119, 120, 121, 122, 123, 124, 125, 36, 37, 38, 39, 40, 41, 49, 50, 51, 126, 127, 128, 129, 130, 131, 132, 67, 68, 133, 134, 135, 136, 137, 138, 139, 140, 141, 142, 143, 144, 145, 70, 71, 72, 66, 215, 216, 217, 218, 219, 220, 221, 222, 223, 236, 237, 229, 230, 231, 232, 233, 234, 235] (by decide +kernel) (by decide +kernel)
set_option maxRecDepth 20000 in
theorem gL_areAlike_X5_leastStep : GoodIn wsL_areAlike (wsV RL 86 RX5 yX5_leastStep wsX5_leastStep) := goodIn_app (goodIn_of _ (by decide +kernel)) ggL_areAlike_X5_leastStep
set_option maxRecDepth 20000 in
theorem ggL_areAlike_X5_count : GoodIn wsL_areAlike wsX5_count := goodIn_r _ [180, 7, 85, 181, 182, 183, 184, 185, 186, 187, 169, 170, 171, 32, 172, 34, 188, 189, 190, 191, 160, 86, 87, 88, 4, 89, 90, 91, 92, 42, 43, 44, 45, 46, 47, 48, 93, 94, 95, 96, 97, 98, 99, 100, 101, 102, 103, 104, 105, 106, 63, 54, 55, 56, 57, 58, 107, 108, 109, 110, 111, 52, 53, 112, 113, 114, 115, 116, 117, 118, 119, 120, 121, 122, 123, 124, 125, 36, 37, 38, 39, 40, 41, 49, 50, 51, 126, 127, 128, 129, 130, 131, 132, 67, 68, 133, 134, 135, 136, 137, 138, 139, 140, 141, 142, 143, 144, 145, 70, 71, 72, 192, 193, 194, 195, 6, 196, 197, 151, 198, 10, 11, 12, 13, 14, 15, 16, 17, 18, 19, 20, 21, 22, 23, 24, 25, 26, 27, 28, 29, 30, 31, 33, 35, 59, 60, 61, 62, 64, 65, 66, 69, 73, 74, 75, 76, 77, 78, 79, 80, 215, 216, 217, 218, 219, 220, 221, 222, 223, 229, 230, 231, 232, 233, 234, 235, 238, 239, 240, 241, 242, 243, 244, 236, 237, 224, 225, 226, 227, 228] (by decide +kernel) (by decide +kernel)
set_option maxRecDepth 20000 in
theorem gL_areAlike_X5_count : GoodIn wsL_areAlike (wsV RL 31 RX5 yX5_count wsX5_count) := goodIn_app (goodIn_of _ (by decide +kernel)) ggL_areAlike_X5_count
set_option maxRecDepth 20000 in
theorem ggL_areAlike_X5_zone : GoodIn wsL_areAlike wsX5_zone := goodIn_r _ [202, 7, 92, 90, 91, 203, 6, 196, 197, 204, 205, 4, 206, 93, 94, 95, 96, 97, 98, 99, 100, 101, 102, 103, 104, 32, 105, 106, 63, 47, 44, 48, 54, 55, 56, 57, 58, 107, 108, 109, 110, 111, 52, 53, 112, 113, 114, 115, 116, 117, 118, 119, 120, 121, 122, 123, 124, 125, 36, 37, 38, 39, 40, 41, 42, 43, 45, 46, 49, 50, 51, 126, 127, 128, 129, 130, 131, 132, 67, 68, 133, 134, 135, 136, 137, 138, 139, 140, 141, 142, 143, 144, 145, 70, 71, 72, 207, 30, 31, 33, 34, 35, 208, 209, 210, 211, 212, 213, 13, 214, 15, 16, 17, 18, 19, 20, 21, 22, 23, 24, 25, 26, 27, 28, 29, 59, 60, 61, 62, 64, 65, 66, 69, 73, 74, 75, 76, 77, 78, 79, 80, 215, 216, 217, 218, 219, 220, 221, 222, 223, 229, 230, 231, 232, 233, 234, 235, 236, 237, 224, 225, 226, 227, 228] (by decide +kernel) (by decide +kernel)
set_option maxRecDepth 20000 in
theorem gL_areAlike_X5_zone : GoodIn wsL_areAlike (wsV RL 42 RX5 yX5_zone wsX5_zone) := goodIn_app (goodIn_of _ (by decide +kernel)) ggL_areAlike_X5_zone
theorem dL_areAlike_0 : decode cL_areAlike 0 = .ok (.aload_n 0, 1) := by decide +kernel
theorem dL_areAlike_1 : decode cL_areAlike 1 = .ok (.invokevirtual 79, 3) := by decide +kernel
theorem dL_areAlike_4 : decode cL_areAlike 4 = .ok (.aload_n 1, 1) := by decide +kernel
theorem dL_areAlike_5 : decode cL_areAlike 5 = .ok (.invokevirtual 79, 3) := by decide +kernel
theorem dL_areAlike_8 : decode cL_areAlike 8 = .ok (.dcmp .l, 1) := by decide +kernel
theorem dL_areAlike_9 : decode cL_areAlike 9 = .ok (.ifCond .ne 44, 3) := by decide +kernel
theorem dL_areAlike_12 : decode cL_areAlike 12 = .ok (.aload_n 0, 1) := by decide +kernel
theorem dL_areAlike_13 : decode cL_areAlike 13 = .ok (.invokevirtual 56, 3) := by decide +kernel
theorem dL_areAlike_16 : decode cL_areAlike 16 = .ok (.aload_n 1, 1) := by decide +kernel
theorem dL_areAlike_17 : decode cL_areAlike 17 = .ok (.invokevirtual 56, 3) := by decide +kernel
theorem dL_areAlike_20 : decode cL_areAlike 20 = .ok (.if_icmp .ne 33, 3) := by decide +kernel
theorem dL_areAlike_23 : decode cL_areAlike 23 = .ok (.aload_n 0, 1) := by decide +kernel
theorem dL_areAlike_24 : decode cL_areAlike 24 = .ok (.invokevirtual 83, 3) := by decide +kernel
theorem dL_areAlike_27 : decode cL_areAlike 27 = .ok (.aload_n 1, 1) := by decide +kernel
theorem dL_areAlike_28 : decode cL_areAlike 28 = .ok (.invokevirtual 83, 3) := by decide +kernel
theorem dL_areAlike_31 : decode cL_areAlike 31 = .ok (.if_icmp .ne 22, 3) := by decide +kernel
theorem dL_areAlike_34 : decode cL_areAlike 34 = .ok (.aload_n 0, 1) := by decide +kernel
theorem dL_areAlike_35 : decode cL_areAlike 35 = .ok (.bipush 7, 2) := by decide +kernel
theorem dL_areAlike_37 : decode cL_areAlike 37 = .ok (.invokevirtual 86, 3) := by decide +kernel
theorem dL_areAlike_40 : decode cL_areAlike 40 = .ok (.aload_n 1, 1) := by decide +kernel
theorem dL_areAlike_41 : decode cL_areAlike 41 = .ok (.bipush 7, 2) := by decide +kernel
theorem dL_areAlike_43 : decode cL_areAlike 43 = .ok (.invokevirtual 86, 3) := by decide +kernel
theorem dL_areAlike_46 : decode cL_areAlike 46 = .ok (.if_icmp .ne 7, 3) := by decide +kernel
theorem dL_areAlike_49 : decode cL_areAlike 49 = .ok (.iconst 1, 1) := by decide +kernel
theorem dL_areAlike_50 : decode cL_areAlike 50 = .ok (.goto 4, 3) := by decide +kernel
theorem dL_areAlike_53 : decode cL_areAlike 53 = .ok (.iconst 0, 1) := by decide +kernel
theorem dL_areAlike_54 : decode cL_areAlike 54 = .ok (.istore_n 2, 1) := by decide +kernel
theorem dL_areAlike_55 : decode cL_areAlike 55 = .ok (.iconst 0, 1) := by decide +kernel
theorem dL_areAlike_56 : decode cL_areAlike 56 = .ok (.istore_n 3, 1) := by decide +kernel
theorem dL_areAlike_57 : decode cL_areAlike 57 = .ok (.iload_n 3, 1) := by decide +kernel
theorem dL_areAlike_58 : decode cL_areAlike 58 = .ok (.bipush 11, 2) := by decide +kernel
theorem dL_areAlike_60 : decode cL_areAlike 60 = .ok (.if_icmp .ge 32, 3) := by decide +kernel
theorem dL_areAlike_63 : decode cL_areAlike 63 = .ok (.iload_n 2, 1) := by decide +kernel
theorem dL_areAlike_64 : decode cL_areAlike 64 = .ok (.ifCond .eq 20, 3) := by decide +kernel
theorem dL_areAlike_67 : decode cL_areAlike 67 = .ok (.aload_n 0, 1) := by decide +kernel
theorem dL_areAlike_68 : decode cL_areAlike 68 = .ok (.iload_n 3, 1) := by decide +kernel
theorem dL_areAlike_69 : decode cL_areAlike 69 = .ok (.invokevirtual 31, 3) := by decide +kernel
theorem dL_areAlike_72 : decode cL_areAlike 72 = .ok (.aload_n 1, 1) := by decide +kernel
theorem dL_areAlike_73 : decode cL_areAlike 73 = .ok (.iload_n 3, 1) := by decide +kernel
theorem dL_areAlike_74 : decode cL_areAlike 74 = .ok (.invokevirtual 31, 3) := by decide +kernel
theorem dL_areAlike_77 : decode cL_areAlike 77 = .ok (.if_icmp .ne 7, 3) := by decide +kernel
theorem dL_areAlike_80 : decode cL_areAlike 80 = .ok (.iconst 1, 1) := by decide +kernel
theorem dL_areAlike_81 : decode cL_areAlike 81 = .ok (.goto 4, 3) := by decide +kernel
theorem dL_areAlike_84 : decode cL_areAlike 84 = .ok (.iconst 0, 1) := by decide +kernel
theorem dL_areAlike_85 : decode cL_areAlike 85 = .ok (.istore_n 2, 1) := by decide +kernel
theorem dL_areAlike_86 : decode cL_areAlike 86 = .ok (.iinc 3 1, 3) := by decide +kernel
theorem dL_areAlike_89 : decode cL_areAlike 89 = .ok (.goto (-32), 3) := by decide +kernel
theorem dL_areAlike_92 : decode cL_areAlike 92 = .ok (.iconst 0, 1) := by decide +kernel
theorem dL_areAlike_93 : decode cL_areAlike 93 = .ok (.istore_n 3, 1) := by decide +kernel
theorem dL_areAlike_94 : decode cL_areAlike 94 = .ok (.iload_n 3, 1) := by decide +kernel
theorem dL_areAlike_95 : decode cL_areAlike 95 = .ok (.sipush 162, 3) := by decide +kernel
theorem dL_areAlike_98 : decode cL_areAlike 98 = .ok (.if_icmp .ge 46, 3) := by decide +kernel
theorem dL_areAlike_101 : decode cL_areAlike 101 = .ok (.iload_n 2, 1) := by decide +kernel
theorem dL_areAlike_102 : decode cL_areAlike 102 = .ok (.ifCond .eq 34, 3) := by decide +kernel
theorem dL_areAlike_105 : decode cL_areAlike 105 = .ok (.aload_n 0, 1) := by decide +kernel
theorem dL_areAlike_106 : decode cL_areAlike 106 = .ok (.iload_n 3, 1) := by decide +kernel
theorem dL_areAlike_107 : decode cL_areAlike 107 = .ok (.bipush 9, 2) := by decide +kernel
theorem dL_areAlike_109 : decode cL_areAlike 109 = .ok (.idiv, 1) := by decide +kernel
theorem dL_areAlike_110 : decode cL_areAlike 110 = .ok (.iload_n 3, 1) := by decide +kernel
theorem dL_areAlike_111 : decode cL_areAlike 111 = .ok (.bipush 9, 2) := by decide +kernel
theorem dL_areAlike_113 : decode cL_areAlike 113 = .ok (.irem, 1) := by decide +kernel
theorem dL_areAlike_114 : decode cL_areAlike 114 = .ok (.invokevirtual 42, 3) := by decide +kernel
theorem dL_areAlike_117 : decode cL_areAlike 117 = .ok (.aload_n 1, 1) := by decide +kernel
theorem dL_areAlike_118 : decode cL_areAlike 118 = .ok (.iload_n 3, 1) := by decide +kernel
theorem dL_areAlike_119 : decode cL_areAlike 119 = .ok (.bipush 9, 2) := by decide +kernel
theorem dL_areAlike_121 : decode cL_areAlike 121 = .ok (.idiv, 1) := by decide +kernel
theorem dL_areAlike_122 : decode cL_areAlike 122 = .ok (.iload_n 3, 1) := by decide +kernel
theorem dL_areAlike_123 : decode cL_areAlike 123 = .ok (.bipush 9, 2) := by decide +kernel
theorem dL_areAlike_125 : decode cL_areAlike 125 = .ok (.irem, 1) := by decide +kernel
theorem dL_areAlike_126 : decode cL_areAlike 126 = .ok (.invokevirtual 42, 3) := by decide +kernel
theorem dL_areAlike_129 : decode cL_areAlike 129 = .ok (.if_icmp .ne 7, 3) := by decide +kernel
theorem dL_areAlike_132 : decode cL_areAlike 132 = .ok (.iconst 1, 1) := by decide +kernel
theorem dL_areAlike_133 : decode cL_areAlike 133 = .ok (.goto 4, 3) := by decide +kernel
theorem dL_areAlike_136 : decode cL_areAlike 136 = .ok (.iconst 0, 1) := by decide +kernel
theorem dL_areAlike_137 : decode cL_areAlike 137 = .ok (.istore_n 2, 1) := by decide +kernel
theorem dL_areAlike_138 : decode cL_areAlike 138 = .ok (.iinc 3 1, 3) := by decide +kernel
theorem dL_areAlike_141 : decode cL_areAlike 141 = .ok (.goto (-47), 3) := by decide +kernel
theorem dL_areAlike_144 : decode cL_areAlike 144 = .ok (.iload_n 2, 1) := by decide +kernel
theorem dL_areAlike_145 : decode cL_areAlike 145 = .ok (.ireturn, 1) := by decide +kernel
set_option maxRecDepth 20000 in
theorem ggL_isWell_X5_spot : GoodIn wsL_isWell wsX5_spot := goodIn_r _ [6, 7, 8, 9, 10, 5, 11, 12, 13, 14, 15, 16, 17, 18, 19, 20, 21, 22, 23, 24, 25, 26, 27, 28, 29, 30, 31, 32, 33, 34, 35, 36, 37, 38, 39, 40, 41, 42, 43, 44, 45, 46, 47, 48, 49, 50, 51, 52, 53, 54, 55, 56, 57, 202, 203, 204, 205, 206, 207, 208, 209, 210, 211, 212, 213, 214, 215, 216, 217] (by decide +kernel) (by decide +kernel)
set_option maxRecDepth 20000 in
theorem gL_isWell_X5_spot : GoodIn wsL_isWell (wsV RL 52 RX5 yX5_spot wsX5_spot) := goodIn_app (goodIn_of _ (by decide +kernel)) ggL_isWell_X5_spot
set_option maxRecDepth 20000 in
theorem ggL_isWell_X5_zone : GoodIn wsL_isWell wsX5_zone := goodIn_r _ [61, 7, 62, 63, 64, 65, 66, 67, 68, 69, 70, 5, 71, 72, 73, 74, 75, 76, 77, 78, 79, 80, 81, 82, 83, 18, 84, 85, 50, 33, 30, 34, 86, 87, 12, 13, 14, 88, 89, 90, 91, 92, 38, 39, 93, 94, 95, 96, 97, 98, 99, 100, 101, 102, 103, 104, 105, 106, 22, 23, 24, 25, 26, 27, 28, 29, 31, 32, 35, 36, 37, 107, 108, 109, 110, 111, 112, 113, 44, 45, 114, 115, 116, 117, 118, 119, 120, 121, 122, 123, 124, 125, 126, 52, 53, 54, 15, 16, 17, 19, 20, 21, 127, 128, 129, 130, 131, 132, 133, 134, 135, 136, 137, 138, 139, 140, 141, 142, 143, 144, 145, 146, 147, 148, 149, 150, 47, 48, 49, 41, 42, 43, 51, 151, 152, 153, 154, 155, 156, 56, 57, 202, 203, 204, 205, 206, 207, 208, 209, 210, 211, 212, 213, 214, 215, 216, 217, 218, 219, 220, 221, 222, 223, 224] (by decide +kernel) (by decide +kernel)
set_option maxRecDepth 20000 in
theorem gL_isWell_X5_zone : GoodIn wsL_isWell (wsV RL 42 RX5 yX5_zone wsX5_zone) := goodIn_app (goodIn_of _ (by decide +kernel)) ggL_isWell_X5_zone
set_option maxRecDepth 20000 in
theorem ggL_isWell_X5_count : GoodIn wsL_isWell wsX5_count := goodIn_r _ [160, 7, 161, 162, 163, 164, 165, 166, 167, 168, 169, 170, 171, 18, 172, 20, 173, 174, 175, 176, 177, 178, 179, 180, 5, 181, 63, 64, 62, 28, 29, 30, 31, 32, 33, 34, 72, 73, 74, 75, 76, 77, 78, 79, 80, 81, 82, 83, 84, 85, 50, 86, 87, 12, 13, 14, 88, 89, 90, 91, 92, 38, 39, 93, 94, 95, 96, 97, 98, 99, 100, 101, 102, 103, 104, 105, 106, 22, 23, 24, 25, 26, 27, 35, 36, 37, 107, 108, 109, 110, 111, 112, 113, 44, 45, 114, 115, 116, 117, 118, 119, 120, 121, 122, 123, 124, 125, 126, 52, 53, 54, 182, 183, 184, 185, 66, 67, 68, 186, 187, 188, 189, 190, 133, 191, 135, 136, 137, 138, 139, 140, 141, 142, 143, 144, 145, 146, 147, 148, 149, 16, 17, 19, 21, 150, 47, 48, 49, 41, 42, 43, 51, 151, 152, 153, 154, 155, 156, 56, 57, 202, 203, 204, 205, 206, 207, 208, 209, 210, 211, 212, 213, 214, 215, 216, 217, 225, 226, 227, 228, 229, 230, 231, 218, 219, 220, 221, 222, 223, 224] (by decide +kernel) (by decide +kernel)
set_option maxRecDepth 20000 in
theorem gL_isWell_X5_count : GoodIn wsL_isWell (wsV RL 31 RX5 yX5_count wsX5_count) := goodIn_app (goodIn_of _ (by decide +kernel)) ggL_isWell_X5_count
set_option maxRecDepth 20000 in
theorem ggL_isWell_X5_restsIn : GoodIn wsL_isWell wsX5_restsIn := goodIn_r _ [195, 7, 161, 178, 179, 180, 5, 181, 63, 64, 62, 28, 29, 30, 31, 32, 33, 34, 72, 73, 74, 75, 76, 77, 78, 79, 80, 81, 82, 83, 18, 84, 85, 50, 86, 87, 12, 13, 14, 88, 89, 90, 91, 92, 38, 39, 93, 94, 95, 96, 97, 98, 99, 100, 101, 102, 103, 104, 105, 106, 22, 23, 24, 25, 26, 27, 35, 36, 37, 107, 108, 109, 110, 111, 112, 113, 44, 45, 114, 115, 116, 117, 118, 119, 120, 121, 122, 123, 124, 125, 126, 52, 53, 54, 43, 202, 203, 204, 205, 206, 207, 208, 209, 210, 211, 212, 213, 214, 215, 216, 217, 218, 219] (by decide +kernel) (by decide +kernel)
set_option maxRecDepth 20000 in
theorem gL_isWell_X5_restsIn : GoodIn wsL_isWell (wsV RL 56 RX5 yX5_restsIn wsX5_restsIn) := goodIn_app (goodIn_of _ (by decide +kernel)) ggL_isWell_X5_restsIn
set_option maxRecDepth 20000 in
theorem ggL_isWell_X5_meanShown : GoodIn wsL_isWell wsX5_meanShown := goodIn_r _ [199, 66, 7, 200, 201, 188, 189, 190, 133, 191, 135, 136, 137, 138, 139, 140, 141, 142, 143, 144, 145, 146, 147, 148, 149, 16, 17, 18, 19, 20, 21, 22, 23, 24, 25, 26, 5, 27, 28, 29, 30, 31, 32, 33, 34, 35, 36, 37, 38, 39, 86, 87, 12, 13, 14, 150, 47, 48, 49, 50, 41, 42, 43, 44, 45, 51, 52, 53, 54, 151, 152, 153, 154, 155, 156, 56, 57, 202, 203, 204, 205, 206, 207, 208, 209, 210, 220, 221, 222, 223, 224, 211, 212, 213, 214, 215, 216, 217] (by decide +kernel) (by decide +kernel)
set_option maxRecDepth 20000 in
theorem gL_isWell_X5_meanShown : GoodIn wsL_isWell (wsV RL 79 RX5 yX5_meanShown wsX5_meanShown) := goodIn_app (goodIn_of _ (by decide +kernel)) ggL_isWell_X5_meanShown
theorem dL_isWell_0 : decode cL_isWell 0 = .ok (.iconst 0, 1) := by decide +kernel
theorem dL_isWell_1 : decode cL_isWell 1 = .ok (.istore_n 1, 1) := by decide +kernel
theorem dL_isWell_2 : decode cL_isWell 2 = .ok (.iconst 0, 1) := by decide +kernel
theorem dL_isWell_3 : decode cL_isWell 3 = .ok (.istore_n 2, 1) := by decide +kernel
theorem dL_isWell_4 : decode cL_isWell 4 = .ok (.iconst 0, 1) := by decide +kernel
theorem dL_isWell_5 : decode cL_isWell 5 = .ok (.istore_n 3, 1) := by decide +kernel
theorem dL_isWell_6 : decode cL_isWell 6 = .ok (.iconst 0, 1) := by decide +kernel
theorem dL_isWell_7 : decode cL_isWell 7 = .ok (.istore 4, 2) := by decide +kernel
theorem dL_isWell_9 : decode cL_isWell 9 = .ok (.iconst 0, 1) := by decide +kernel
theorem dL_isWell_10 : decode cL_isWell 10 = .ok (.istore 5, 2) := by decide +kernel
theorem dL_isWell_12 : decode cL_isWell 12 = .ok (.iconst 0, 1) := by decide +kernel
theorem dL_isWell_13 : decode cL_isWell 13 = .ok (.istore 6, 2) := by decide +kernel
theorem dL_isWell_15 : decode cL_isWell 15 = .ok (.iconst 1, 1) := by decide +kernel
theorem dL_isWell_16 : decode cL_isWell 16 = .ok (.istore 7, 2) := by decide +kernel
theorem dL_isWell_18 : decode cL_isWell 18 = .ok (.iconst 0, 1) := by decide +kernel
theorem dL_isWell_19 : decode cL_isWell 19 = .ok (.istore 8, 2) := by decide +kernel
theorem dL_isWell_21 : decode cL_isWell 21 = .ok (.iload 8, 2) := by decide +kernel
theorem dL_isWell_23 : decode cL_isWell 23 = .ok (.sipush 288, 3) := by decide +kernel
theorem dL_isWell_26 : decode cL_isWell 26 = .ok (.if_icmp .ge 322, 3) := by decide +kernel
theorem dL_isWell_29 : decode cL_isWell 29 = .ok (.iload 8, 2) := by decide +kernel
theorem dL_isWell_31 : decode cL_isWell 31 = .ok (.bipush 24, 2) := by decide +kernel
theorem dL_isWell_33 : decode cL_isWell 33 = .ok (.irem, 1) := by decide +kernel
theorem dL_isWell_34 : decode cL_isWell 34 = .ok (.istore 9, 2) := by decide +kernel
theorem dL_isWell_36 : decode cL_isWell 36 = .ok (.iload 8, 2) := by decide +kernel
theorem dL_isWell_38 : decode cL_isWell 38 = .ok (.bipush 24, 2) := by decide +kernel
theorem dL_isWell_40 : decode cL_isWell 40 = .ok (.idiv, 1) := by decide +kernel
theorem dL_isWell_41 : decode cL_isWell 41 = .ok (.istore 10, 2) := by decide +kernel
theorem dL_isWell_43 : decode cL_isWell 43 = .ok (.iload 10, 2) := by decide +kernel
theorem dL_isWell_45 : decode cL_isWell 45 = .ok (.iconst 4, 1) := by decide +kernel
theorem dL_isWell_46 : decode cL_isWell 46 = .ok (.idiv, 1) := by decide +kernel
theorem dL_isWell_47 : decode cL_isWell 47 = .ok (.bipush 6, 2) := by decide +kernel
theorem dL_isWell_49 : decode cL_isWell 49 = .ok (.imul, 1) := by decide +kernel
theorem dL_isWell_50 : decode cL_isWell 50 = .ok (.iload 9, 2) := by decide +kernel
theorem dL_isWell_52 : decode cL_isWell 52 = .ok (.iconst 4, 1) := by decide +kernel
theorem dL_isWell_53 : decode cL_isWell 53 = .ok (.idiv, 1) := by decide +kernel
theorem dL_isWell_54 : decode cL_isWell 54 = .ok (.iadd, 1) := by decide +kernel
theorem dL_isWell_55 : decode cL_isWell 55 = .ok (.istore 11, 2) := by decide +kernel
theorem dL_isWell_57 : decode cL_isWell 57 = .ok (.aload_n 0, 1) := by decide +kernel
theorem dL_isWell_58 : decode cL_isWell 58 = .ok (.iload 9, 2) := by decide +kernel
theorem dL_isWell_60 : decode cL_isWell 60 = .ok (.iload 10, 2) := by decide +kernel
theorem dL_isWell_62 : decode cL_isWell 62 = .ok (.iconst 0, 1) := by decide +kernel
theorem dL_isWell_63 : decode cL_isWell 63 = .ok (.invokevirtual 52, 3) := by decide +kernel
theorem dL_isWell_66 : decode cL_isWell 66 = .ok (.istore 12, 2) := by decide +kernel
theorem dL_isWell_68 : decode cL_isWell 68 = .ok (.aload_n 0, 1) := by decide +kernel
theorem dL_isWell_69 : decode cL_isWell 69 = .ok (.iload 9, 2) := by decide +kernel
theorem dL_isWell_71 : decode cL_isWell 71 = .ok (.iload 10, 2) := by decide +kernel
theorem dL_isWell_73 : decode cL_isWell 73 = .ok (.iconst 1, 1) := by decide +kernel
theorem dL_isWell_74 : decode cL_isWell 74 = .ok (.invokevirtual 52, 3) := by decide +kernel
theorem dL_isWell_77 : decode cL_isWell 77 = .ok (.istore 13, 2) := by decide +kernel
theorem dL_isWell_79 : decode cL_isWell 79 = .ok (.aload_n 0, 1) := by decide +kernel
theorem dL_isWell_80 : decode cL_isWell 80 = .ok (.iload 9, 2) := by decide +kernel
theorem dL_isWell_82 : decode cL_isWell 82 = .ok (.iload 10, 2) := by decide +kernel
theorem dL_isWell_84 : decode cL_isWell 84 = .ok (.iconst 2, 1) := by decide +kernel
theorem dL_isWell_85 : decode cL_isWell 85 = .ok (.invokevirtual 52, 3) := by decide +kernel
theorem dL_isWell_88 : decode cL_isWell 88 = .ok (.istore 14, 2) := by decide +kernel
theorem dL_isWell_90 : decode cL_isWell 90 = .ok (.aload_n 0, 1) := by decide +kernel
theorem dL_isWell_91 : decode cL_isWell 91 = .ok (.iload 9, 2) := by decide +kernel
theorem dL_isWell_93 : decode cL_isWell 93 = .ok (.iload 10, 2) := by decide +kernel
theorem dL_isWell_95 : decode cL_isWell 95 = .ok (.iconst 3, 1) := by decide +kernel
theorem dL_isWell_96 : decode cL_isWell 96 = .ok (.invokevirtual 52, 3) := by decide +kernel
theorem dL_isWell_99 : decode cL_isWell 99 = .ok (.istore 15, 2) := by decide +kernel
theorem dL_isWell_101 : decode cL_isWell 101 = .ok (.iload 15, 2) := by decide +kernel
theorem dL_isWell_103 : decode cL_isWell 103 = .ok (.iload 12, 2) := by decide +kernel
theorem dL_isWell_105 : decode cL_isWell 105 = .ok (.if_icmp .ge 11, 3) := by decide +kernel
theorem dL_isWell_108 : decode cL_isWell 108 = .ok (.iload 12, 2) := by decide +kernel
theorem dL_isWell_110 : decode cL_isWell 110 = .ok (.iload 15, 2) := by decide +kernel
theorem dL_isWell_112 : decode cL_isWell 112 = .ok (.isub, 1) := by decide +kernel
theorem dL_isWell_113 : decode cL_isWell 113 = .ok (.goto 8, 3) := by decide +kernel
theorem dL_isWell_116 : decode cL_isWell 116 = .ok (.iload 15, 2) := by decide +kernel
theorem dL_isWell_118 : decode cL_isWell 118 = .ok (.iload 12, 2) := by decide +kernel
theorem dL_isWell_120 : decode cL_isWell 120 = .ok (.isub, 1) := by decide +kernel
theorem dL_isWell_121 : decode cL_isWell 121 = .ok (.istore 16, 2) := by decide +kernel
theorem dL_isWell_123 : decode cL_isWell 123 = .ok (.iload 13, 2) := by decide +kernel
theorem dL_isWell_125 : decode cL_isWell 125 = .ok (.iload 14, 2) := by decide +kernel
theorem dL_isWell_127 : decode cL_isWell 127 = .ok (.imul, 1) := by decide +kernel
theorem dL_isWell_128 : decode cL_isWell 128 = .ok (.sipush 255, 3) := by decide +kernel
theorem dL_isWell_131 : decode cL_isWell 131 = .ok (.idiv, 1) := by decide +kernel
theorem dL_isWell_132 : decode cL_isWell 132 = .ok (.istore 17, 2) := by decide +kernel
theorem dL_isWell_134 : decode cL_isWell 134 = .ok (.aload_n 0, 1) := by decide +kernel
theorem dL_isWell_135 : decode cL_isWell 135 = .ok (.iload 11, 2) := by decide +kernel
theorem dL_isWell_137 : decode cL_isWell 137 = .ok (.bipush 6, 2) := by decide +kernel
theorem dL_isWell_139 : decode cL_isWell 139 = .ok (.invokevirtual 42, 3) := by decide +kernel
theorem dL_isWell_142 : decode cL_isWell 142 = .ok (.istore 18, 2) := by decide +kernel
theorem dL_isWell_144 : decode cL_isWell 144 = .ok (.iload_n 1, 1) := by decide +kernel
theorem dL_isWell_145 : decode cL_isWell 145 = .ok (.iload 16, 2) := by decide +kernel
theorem dL_isWell_147 : decode cL_isWell 147 = .ok (.ifCond .ne 7, 3) := by decide +kernel
theorem dL_isWell_150 : decode cL_isWell 150 = .ok (.iconst 1, 1) := by decide +kernel
theorem dL_isWell_151 : decode cL_isWell 151 = .ok (.goto 4, 3) := by decide +kernel
theorem dL_isWell_154 : decode cL_isWell 154 = .ok (.iconst 0, 1) := by decide +kernel
theorem dL_isWell_155 : decode cL_isWell 155 = .ok (.iadd, 1) := by decide +kernel
theorem dL_isWell_156 : decode cL_isWell 156 = .ok (.istore_n 1, 1) := by decide +kernel
theorem dL_isWell_157 : decode cL_isWell 157 = .ok (.iload_n 2, 1) := by decide +kernel
theorem dL_isWell_158 : decode cL_isWell 158 = .ok (.iload 15, 2) := by decide +kernel
theorem dL_isWell_160 : decode cL_isWell 160 = .ok (.iload 12, 2) := by decide +kernel
theorem dL_isWell_162 : decode cL_isWell 162 = .ok (.if_icmp .ge 7, 3) := by decide +kernel
theorem dL_isWell_165 : decode cL_isWell 165 = .ok (.iconst 1, 1) := by decide +kernel
theorem dL_isWell_166 : decode cL_isWell 166 = .ok (.goto 4, 3) := by decide +kernel
theorem dL_isWell_169 : decode cL_isWell 169 = .ok (.iconst 0, 1) := by decide +kernel
theorem dL_isWell_170 : decode cL_isWell 170 = .ok (.iadd, 1) := by decide +kernel
theorem dL_isWell_171 : decode cL_isWell 171 = .ok (.istore_n 2, 1) := by decide +kernel
theorem dL_isWell_172 : decode cL_isWell 172 = .ok (.iload_n 3, 1) := by decide +kernel
theorem dL_isWell_173 : decode cL_isWell 173 = .ok (.iload 15, 2) := by decide +kernel
theorem dL_isWell_175 : decode cL_isWell 175 = .ok (.iload 12, 2) := by decide +kernel
theorem dL_isWell_177 : decode cL_isWell 177 = .ok (.if_icmp .le 7, 3) := by decide +kernel
theorem dL_isWell_180 : decode cL_isWell 180 = .ok (.iconst 1, 1) := by decide +kernel
theorem dL_isWell_181 : decode cL_isWell 181 = .ok (.goto 4, 3) := by decide +kernel
theorem dL_isWell_184 : decode cL_isWell 184 = .ok (.iconst 0, 1) := by decide +kernel
theorem dL_isWell_185 : decode cL_isWell 185 = .ok (.iadd, 1) := by decide +kernel
theorem dL_isWell_186 : decode cL_isWell 186 = .ok (.istore_n 3, 1) := by decide +kernel
theorem dL_isWell_187 : decode cL_isWell 187 = .ok (.iload 4, 2) := by decide +kernel
theorem dL_isWell_189 : decode cL_isWell 189 = .ok (.iload 16, 2) := by decide +kernel
theorem dL_isWell_191 : decode cL_isWell 191 = .ok (.iadd, 1) := by decide +kernel
theorem dL_isWell_192 : decode cL_isWell 192 = .ok (.istore 4, 2) := by decide +kernel
theorem dL_isWell_194 : decode cL_isWell 194 = .ok (.iload 16, 2) := by decide +kernel
theorem dL_isWell_196 : decode cL_isWell 196 = .ok (.iload 5, 2) := by decide +kernel
theorem dL_isWell_198 : decode cL_isWell 198 = .ok (.if_icmp .le 8, 3) := by decide +kernel
theorem dL_isWell_201 : decode cL_isWell 201 = .ok (.iload 16, 2) := by decide +kernel
theorem dL_isWell_203 : decode cL_isWell 203 = .ok (.goto 5, 3) := by decide +kernel
theorem dL_isWell_206 : decode cL_isWell 206 = .ok (.iload 5, 2) := by decide +kernel
theorem dL_isWell_208 : decode cL_isWell 208 = .ok (.istore 5, 2) := by decide +kernel
theorem dL_isWell_210 : decode cL_isWell 210 = .ok (.iload 6, 2) := by decide +kernel
theorem dL_isWell_212 : decode cL_isWell 212 = .ok (.iload 15, 2) := by decide +kernel
theorem dL_isWell_214 : decode cL_isWell 214 = .ok (.iadd, 1) := by decide +kernel
theorem dL_isWell_215 : decode cL_isWell 215 = .ok (.istore 6, 2) := by decide +kernel
theorem dL_isWell_217 : decode cL_isWell 217 = .ok (.iload 7, 2) := by decide +kernel
theorem dL_isWell_219 : decode cL_isWell 219 = .ok (.ifCond .eq 120, 3) := by decide +kernel
theorem dL_isWell_222 : decode cL_isWell 222 = .ok (.iload 13, 2) := by decide +kernel
theorem dL_isWell_224 : decode cL_isWell 224 = .ok (.aload_n 0, 1) := by decide +kernel
theorem dL_isWell_225 : decode cL_isWell 225 = .ok (.iload 11, 2) := by decide +kernel
theorem dL_isWell_227 : decode cL_isWell 227 = .ok (.iconst 2, 1) := by decide +kernel
theorem dL_isWell_228 : decode cL_isWell 228 = .ok (.invokevirtual 42, 3) := by decide +kernel
theorem dL_isWell_231 : decode cL_isWell 231 = .ok (.if_icmp .ne 108, 3) := by decide +kernel
theorem dL_isWell_234 : decode cL_isWell 234 = .ok (.iload 18, 2) := by decide +kernel
theorem dL_isWell_236 : decode cL_isWell 236 = .ok (.iload 13, 2) := by decide +kernel
theorem dL_isWell_238 : decode cL_isWell 238 = .ok (.aload_n 0, 1) := by decide +kernel
theorem dL_isWell_239 : decode cL_isWell 239 = .ok (.bipush 18, 2) := by decide +kernel
theorem dL_isWell_241 : decode cL_isWell 241 = .ok (.invokevirtual 31, 3) := by decide +kernel
theorem dL_isWell_244 : decode cL_isWell 244 = .ok (.imul, 1) := by decide +kernel
theorem dL_isWell_245 : decode cL_isWell 245 = .ok (.sipush 1000, 3) := by decide +kernel
theorem dL_isWell_248 : decode cL_isWell 248 = .ok (.idiv, 1) := by decide +kernel
theorem dL_isWell_249 : decode cL_isWell 249 = .ok (.if_icmp .ne 90, 3) := by decide +kernel
theorem dL_isWell_252 : decode cL_isWell 252 = .ok (.iload 17, 2) := by decide +kernel
theorem dL_isWell_254 : decode cL_isWell 254 = .ok (.iload 13, 2) := by decide +kernel
theorem dL_isWell_256 : decode cL_isWell 256 = .ok (.iload 12, 2) := by decide +kernel
theorem dL_isWell_258 : decode cL_isWell 258 = .ok (.if_icmp .ge 8, 3) := by decide +kernel
theorem dL_isWell_261 : decode cL_isWell 261 = .ok (.iload 13, 2) := by decide +kernel
theorem dL_isWell_263 : decode cL_isWell 263 = .ok (.goto 5, 3) := by decide +kernel
theorem dL_isWell_266 : decode cL_isWell 266 = .ok (.iload 12, 2) := by decide +kernel
theorem dL_isWell_268 : decode cL_isWell 268 = .ok (.if_icmp .ne 71, 3) := by decide +kernel
theorem dL_isWell_271 : decode cL_isWell 271 = .ok (.iload 15, 2) := by decide +kernel
theorem dL_isWell_273 : decode cL_isWell 273 = .ok (.iload 17, 2) := by decide +kernel
theorem dL_isWell_275 : decode cL_isWell 275 = .ok (.iload 18, 2) := by decide +kernel
theorem dL_isWell_277 : decode cL_isWell 277 = .ok (.if_icmp .ge 8, 3) := by decide +kernel
theorem dL_isWell_280 : decode cL_isWell 280 = .ok (.iload 18, 2) := by decide +kernel
theorem dL_isWell_282 : decode cL_isWell 282 = .ok (.goto 5, 3) := by decide +kernel
theorem dL_isWell_285 : decode cL_isWell 285 = .ok (.iload 17, 2) := by decide +kernel
theorem dL_isWell_287 : decode cL_isWell 287 = .ok (.if_icmp .ne 52, 3) := by decide +kernel
theorem dL_isWell_290 : decode cL_isWell 290 = .ok (.aload_n 0, 1) := by decide +kernel
theorem dL_isWell_291 : decode cL_isWell 291 = .ok (.iload 9, 2) := by decide +kernel
theorem dL_isWell_293 : decode cL_isWell 293 = .ok (.iload 10, 2) := by decide +kernel
theorem dL_isWell_295 : decode cL_isWell 295 = .ok (.iconst 4, 1) := by decide +kernel
theorem dL_isWell_296 : decode cL_isWell 296 = .ok (.invokevirtual 52, 3) := by decide +kernel
theorem dL_isWell_299 : decode cL_isWell 299 = .ok (.iload 16, 2) := by decide +kernel
theorem dL_isWell_301 : decode cL_isWell 301 = .ok (.ifCond .ne 7, 3) := by decide +kernel
theorem dL_isWell_304 : decode cL_isWell 304 = .ok (.iconst 0, 1) := by decide +kernel
theorem dL_isWell_305 : decode cL_isWell 305 = .ok (.goto 15, 3) := by decide +kernel
theorem dL_isWell_308 : decode cL_isWell 308 = .ok (.iload 15, 2) := by decide +kernel
theorem dL_isWell_310 : decode cL_isWell 310 = .ok (.iload 12, 2) := by decide +kernel
theorem dL_isWell_312 : decode cL_isWell 312 = .ok (.if_icmp .ge 7, 3) := by decide +kernel
theorem dL_isWell_315 : decode cL_isWell 315 = .ok (.iconst 1, 1) := by decide +kernel
theorem dL_isWell_316 : decode cL_isWell 316 = .ok (.goto 4, 3) := by decide +kernel
theorem dL_isWell_319 : decode cL_isWell 319 = .ok (.iconst 2, 1) := by decide +kernel
theorem dL_isWell_320 : decode cL_isWell 320 = .ok (.if_icmp .ne 19, 3) := by decide +kernel
theorem dL_isWell_323 : decode cL_isWell 323 = .ok (.iload 12, 2) := by decide +kernel
theorem dL_isWell_325 : decode cL_isWell 325 = .ok (.aload_n 0, 1) := by decide +kernel
theorem dL_isWell_326 : decode cL_isWell 326 = .ok (.iload 11, 2) := by decide +kernel
theorem dL_isWell_328 : decode cL_isWell 328 = .ok (.iconst 4, 1) := by decide +kernel
theorem dL_isWell_329 : decode cL_isWell 329 = .ok (.invokevirtual 42, 3) := by decide +kernel
theorem dL_isWell_332 : decode cL_isWell 332 = .ok (.if_icmp .gt 7, 3) := by decide +kernel
theorem dL_isWell_335 : decode cL_isWell 335 = .ok (.iconst 1, 1) := by decide +kernel
theorem dL_isWell_336 : decode cL_isWell 336 = .ok (.goto 4, 3) := by decide +kernel
theorem dL_isWell_339 : decode cL_isWell 339 = .ok (.iconst 0, 1) := by decide +kernel
theorem dL_isWell_340 : decode cL_isWell 340 = .ok (.istore 7, 2) := by decide +kernel
theorem dL_isWell_342 : decode cL_isWell 342 = .ok (.iinc 8 1, 3) := by decide +kernel
theorem dL_isWell_345 : decode cL_isWell 345 = .ok (.goto (-324), 3) := by decide +kernel
theorem dL_isWell_348 : decode cL_isWell 348 = .ok (.iconst 0, 1) := by decide +kernel
theorem dL_isWell_349 : decode cL_isWell 349 = .ok (.istore 8, 2) := by decide +kernel
theorem dL_isWell_351 : decode cL_isWell 351 = .ok (.iconst 0, 1) := by decide +kernel
theorem dL_isWell_352 : decode cL_isWell 352 = .ok (.istore 9, 2) := by decide +kernel
theorem dL_isWell_354 : decode cL_isWell 354 = .ok (.iconst 1, 1) := by decide +kernel
theorem dL_isWell_355 : decode cL_isWell 355 = .ok (.istore 10, 2) := by decide +kernel
theorem dL_isWell_357 : decode cL_isWell 357 = .ok (.iconst 0, 1) := by decide +kernel
theorem dL_isWell_358 : decode cL_isWell 358 = .ok (.istore 11, 2) := by decide +kernel
theorem dL_isWell_360 : decode cL_isWell 360 = .ok (.iload 11, 2) := by decide +kernel
theorem dL_isWell_362 : decode cL_isWell 362 = .ok (.bipush 18, 2) := by decide +kernel
theorem dL_isWell_364 : decode cL_isWell 364 = .ok (.if_icmp .ge 174, 3) := by decide +kernel
theorem dL_isWell_367 : decode cL_isWell 367 = .ok (.aload_n 0, 1) := by decide +kernel
theorem dL_isWell_368 : decode cL_isWell 368 = .ok (.iload 11, 2) := by decide +kernel
theorem dL_isWell_370 : decode cL_isWell 370 = .ok (.iconst 0, 1) := by decide +kernel
theorem dL_isWell_371 : decode cL_isWell 371 = .ok (.invokevirtual 42, 3) := by decide +kernel
theorem dL_isWell_374 : decode cL_isWell 374 = .ok (.istore 12, 2) := by decide +kernel
theorem dL_isWell_376 : decode cL_isWell 376 = .ok (.iload 8, 2) := by decide +kernel
theorem dL_isWell_378 : decode cL_isWell 378 = .ok (.iload 12, 2) := by decide +kernel
theorem dL_isWell_380 : decode cL_isWell 380 = .ok (.iadd, 1) := by decide +kernel
theorem dL_isWell_381 : decode cL_isWell 381 = .ok (.istore 8, 2) := by decide +kernel
theorem dL_isWell_383 : decode cL_isWell 383 = .ok (.iload 9, 2) := by decide +kernel
theorem dL_isWell_385 : decode cL_isWell 385 = .ok (.aload_n 0, 1) := by decide +kernel
theorem dL_isWell_386 : decode cL_isWell 386 = .ok (.iload 11, 2) := by decide +kernel
theorem dL_isWell_388 : decode cL_isWell 388 = .ok (.iconst 3, 1) := by decide +kernel
theorem dL_isWell_389 : decode cL_isWell 389 = .ok (.invokevirtual 42, 3) := by decide +kernel
theorem dL_isWell_392 : decode cL_isWell 392 = .ok (.iadd, 1) := by decide +kernel
theorem dL_isWell_393 : decode cL_isWell 393 = .ok (.istore 9, 2) := by decide +kernel
theorem dL_isWell_395 : decode cL_isWell 395 = .ok (.iload 10, 2) := by decide +kernel
theorem dL_isWell_397 : decode cL_isWell 397 = .ok (.ifCond .eq 19, 3) := by decide +kernel
theorem dL_isWell_400 : decode cL_isWell 400 = .ok (.iload 12, 2) := by decide +kernel
theorem dL_isWell_402 : decode cL_isWell 402 = .ok (.aload_n 0, 1) := by decide +kernel
theorem dL_isWell_403 : decode cL_isWell 403 = .ok (.iload 11, 2) := by decide +kernel
theorem dL_isWell_405 : decode cL_isWell 405 = .ok (.iconst 1, 1) := by decide +kernel
theorem dL_isWell_406 : decode cL_isWell 406 = .ok (.invokevirtual 42, 3) := by decide +kernel
theorem dL_isWell_409 : decode cL_isWell 409 = .ok (.if_icmp .ne 7, 3) := by decide +kernel
theorem dL_isWell_412 : decode cL_isWell 412 = .ok (.iconst 1, 1) := by decide +kernel
theorem dL_isWell_413 : decode cL_isWell 413 = .ok (.goto 4, 3) := by decide +kernel
theorem dL_isWell_416 : decode cL_isWell 416 = .ok (.iconst 0, 1) := by decide +kernel
theorem dL_isWell_417 : decode cL_isWell 417 = .ok (.istore 10, 2) := by decide +kernel
theorem dL_isWell_419 : decode cL_isWell 419 = .ok (.iload 7, 2) := by decide +kernel
theorem dL_isWell_421 : decode cL_isWell 421 = .ok (.ifCond .eq 108, 3) := by decide +kernel
theorem dL_isWell_424 : decode cL_isWell 424 = .ok (.iload 12, 2) := by decide +kernel
theorem dL_isWell_426 : decode cL_isWell 426 = .ok (.ifCond .lt 103, 3) := by decide +kernel
theorem dL_isWell_429 : decode cL_isWell 429 = .ok (.iload 12, 2) := by decide +kernel
theorem dL_isWell_431 : decode cL_isWell 431 = .ok (.sipush 255, 3) := by decide +kernel
theorem dL_isWell_434 : decode cL_isWell 434 = .ok (.if_icmp .gt 95, 3) := by decide +kernel
theorem dL_isWell_437 : decode cL_isWell 437 = .ok (.aload_n 0, 1) := by decide +kernel
theorem dL_isWell_438 : decode cL_isWell 438 = .ok (.iload 11, 2) := by decide +kernel
theorem dL_isWell_440 : decode cL_isWell 440 = .ok (.iconst 1, 1) := by decide +kernel
theorem dL_isWell_441 : decode cL_isWell 441 = .ok (.invokevirtual 42, 3) := by decide +kernel
theorem dL_isWell_444 : decode cL_isWell 444 = .ok (.ifCond .lt 85, 3) := by decide +kernel
theorem dL_isWell_447 : decode cL_isWell 447 = .ok (.aload_n 0, 1) := by decide +kernel
theorem dL_isWell_448 : decode cL_isWell 448 = .ok (.iload 11, 2) := by decide +kernel
theorem dL_isWell_450 : decode cL_isWell 450 = .ok (.iconst 1, 1) := by decide +kernel
theorem dL_isWell_451 : decode cL_isWell 451 = .ok (.invokevirtual 42, 3) := by decide +kernel
theorem dL_isWell_454 : decode cL_isWell 454 = .ok (.sipush 255, 3) := by decide +kernel
theorem dL_isWell_457 : decode cL_isWell 457 = .ok (.if_icmp .gt 72, 3) := by decide +kernel
theorem dL_isWell_460 : decode cL_isWell 460 = .ok (.aload_n 0, 1) := by decide +kernel
theorem dL_isWell_461 : decode cL_isWell 461 = .ok (.iload 11, 2) := by decide +kernel
theorem dL_isWell_463 : decode cL_isWell 463 = .ok (.iconst 3, 1) := by decide +kernel
theorem dL_isWell_464 : decode cL_isWell 464 = .ok (.invokevirtual 42, 3) := by decide +kernel
theorem dL_isWell_467 : decode cL_isWell 467 = .ok (.ifCond .eq 18, 3) := by decide +kernel
theorem dL_isWell_470 : decode cL_isWell 470 = .ok (.iload 12, 2) := by decide +kernel
theorem dL_isWell_472 : decode cL_isWell 472 = .ok (.ifCond .ne 57, 3) := by decide +kernel
theorem dL_isWell_475 : decode cL_isWell 475 = .ok (.aload_n 0, 1) := by decide +kernel
theorem dL_isWell_476 : decode cL_isWell 476 = .ok (.iload 11, 2) := by decide +kernel
theorem dL_isWell_478 : decode cL_isWell 478 = .ok (.iconst 1, 1) := by decide +kernel
theorem dL_isWell_479 : decode cL_isWell 479 = .ok (.invokevirtual 42, 3) := by decide +kernel
theorem dL_isWell_482 : decode cL_isWell 482 = .ok (.ifCond .ne 47, 3) := by decide +kernel
theorem dL_isWell_485 : decode cL_isWell 485 = .ok (.aload_n 0, 1) := by decide +kernel
theorem dL_isWell_486 : decode cL_isWell 486 = .ok (.iload 11, 2) := by decide +kernel
theorem dL_isWell_488 : decode cL_isWell 488 = .ok (.iconst 5, 1) := by decide +kernel
theorem dL_isWell_489 : decode cL_isWell 489 = .ok (.invokevirtual 42, 3) := by decide +kernel
theorem dL_isWell_492 : decode cL_isWell 492 = .ok (.aload_n 0, 1) := by decide +kernel
theorem dL_isWell_493 : decode cL_isWell 493 = .ok (.iload 11, 2) := by decide +kernel
theorem dL_isWell_495 : decode cL_isWell 495 = .ok (.iconst 4, 1) := by decide +kernel
theorem dL_isWell_496 : decode cL_isWell 496 = .ok (.invokevirtual 42, 3) := by decide +kernel
theorem dL_isWell_499 : decode cL_isWell 499 = .ok (.if_icmp .gt 30, 3) := by decide +kernel
theorem dL_isWell_502 : decode cL_isWell 502 = .ok (.aload_n 0, 1) := by decide +kernel
theorem dL_isWell_503 : decode cL_isWell 503 = .ok (.iload 11, 2) := by decide +kernel
theorem dL_isWell_505 : decode cL_isWell 505 = .ok (.iconst 2, 1) := by decide +kernel
theorem dL_isWell_506 : decode cL_isWell 506 = .ok (.invokevirtual 42, 3) := by decide +kernel
theorem dL_isWell_509 : decode cL_isWell 509 = .ok (.iload 12, 2) := by decide +kernel
theorem dL_isWell_511 : decode cL_isWell 511 = .ok (.aload_n 0, 1) := by decide +kernel
theorem dL_isWell_512 : decode cL_isWell 512 = .ok (.bipush 13, 2) := by decide +kernel
theorem dL_isWell_514 : decode cL_isWell 514 = .ok (.invokevirtual 31, 3) := by decide +kernel
theorem dL_isWell_517 : decode cL_isWell 517 = .ok (.imul, 1) := by decide +kernel
theorem dL_isWell_518 : decode cL_isWell 518 = .ok (.sipush 256, 3) := by decide +kernel
theorem dL_isWell_521 : decode cL_isWell 521 = .ok (.idiv, 1) := by decide +kernel
theorem dL_isWell_522 : decode cL_isWell 522 = .ok (.if_icmp .lt 7, 3) := by decide +kernel
theorem dL_isWell_525 : decode cL_isWell 525 = .ok (.iconst 1, 1) := by decide +kernel
theorem dL_isWell_526 : decode cL_isWell 526 = .ok (.goto 4, 3) := by decide +kernel
theorem dL_isWell_529 : decode cL_isWell 529 = .ok (.iconst 0, 1) := by decide +kernel
theorem dL_isWell_530 : decode cL_isWell 530 = .ok (.istore 7, 2) := by decide +kernel
theorem dL_isWell_532 : decode cL_isWell 532 = .ok (.iinc 11 1, 3) := by decide +kernel
theorem dL_isWell_535 : decode cL_isWell 535 = .ok (.goto (-175), 3) := by decide +kernel
theorem dL_isWell_538 : decode cL_isWell 538 = .ok (.iload 7, 2) := by decide +kernel
theorem dL_isWell_540 : decode cL_isWell 540 = .ok (.ifCond .eq 130, 3) := by decide +kernel
theorem dL_isWell_543 : decode cL_isWell 543 = .ok (.iload_n 1, 1) := by decide +kernel
theorem dL_isWell_544 : decode cL_isWell 544 = .ok (.aload_n 0, 1) := by decide +kernel
theorem dL_isWell_545 : decode cL_isWell 545 = .ok (.iconst 4, 1) := by decide +kernel
theorem dL_isWell_546 : decode cL_isWell 546 = .ok (.invokevirtual 31, 3) := by decide +kernel
theorem dL_isWell_549 : decode cL_isWell 549 = .ok (.if_icmp .ne 121, 3) := by decide +kernel
theorem dL_isWell_552 : decode cL_isWell 552 = .ok (.iload_n 2, 1) := by decide +kernel
theorem dL_isWell_553 : decode cL_isWell 553 = .ok (.aload_n 0, 1) := by decide +kernel
theorem dL_isWell_554 : decode cL_isWell 554 = .ok (.iconst 5, 1) := by decide +kernel
theorem dL_isWell_555 : decode cL_isWell 555 = .ok (.invokevirtual 31, 3) := by decide +kernel
theorem dL_isWell_558 : decode cL_isWell 558 = .ok (.if_icmp .ne 112, 3) := by decide +kernel
theorem dL_isWell_561 : decode cL_isWell 561 = .ok (.iload_n 3, 1) := by decide +kernel
theorem dL_isWell_562 : decode cL_isWell 562 = .ok (.aload_n 0, 1) := by decide +kernel
theorem dL_isWell_563 : decode cL_isWell 563 = .ok (.bipush 6, 2) := by decide +kernel
theorem dL_isWell_565 : decode cL_isWell 565 = .ok (.invokevirtual 31, 3) := by decide +kernel
theorem dL_isWell_568 : decode cL_isWell 568 = .ok (.if_icmp .ne 102, 3) := by decide +kernel
theorem dL_isWell_571 : decode cL_isWell 571 = .ok (.iload 4, 2) := by decide +kernel
theorem dL_isWell_573 : decode cL_isWell 573 = .ok (.aload_n 0, 1) := by decide +kernel
theorem dL_isWell_574 : decode cL_isWell 574 = .ok (.bipush 7, 2) := by decide +kernel
theorem dL_isWell_576 : decode cL_isWell 576 = .ok (.invokevirtual 31, 3) := by decide +kernel
theorem dL_isWell_579 : decode cL_isWell 579 = .ok (.if_icmp .ne 91, 3) := by decide +kernel
theorem dL_isWell_582 : decode cL_isWell 582 = .ok (.iload 5, 2) := by decide +kernel
theorem dL_isWell_584 : decode cL_isWell 584 = .ok (.aload_n 0, 1) := by decide +kernel
theorem dL_isWell_585 : decode cL_isWell 585 = .ok (.bipush 8, 2) := by decide +kernel
theorem dL_isWell_587 : decode cL_isWell 587 = .ok (.invokevirtual 31, 3) := by decide +kernel
theorem dL_isWell_590 : decode cL_isWell 590 = .ok (.if_icmp .ne 80, 3) := by decide +kernel
theorem dL_isWell_593 : decode cL_isWell 593 = .ok (.iload 8, 2) := by decide +kernel
theorem dL_isWell_595 : decode cL_isWell 595 = .ok (.aload_n 0, 1) := by decide +kernel
theorem dL_isWell_596 : decode cL_isWell 596 = .ok (.iconst 1, 1) := by decide +kernel
theorem dL_isWell_597 : decode cL_isWell 597 = .ok (.invokevirtual 31, 3) := by decide +kernel
theorem dL_isWell_600 : decode cL_isWell 600 = .ok (.if_icmp .ne 70, 3) := by decide +kernel
theorem dL_isWell_603 : decode cL_isWell 603 = .ok (.iload 9, 2) := by decide +kernel
theorem dL_isWell_605 : decode cL_isWell 605 = .ok (.aload_n 0, 1) := by decide +kernel
theorem dL_isWell_606 : decode cL_isWell 606 = .ok (.bipush 9, 2) := by decide +kernel
theorem dL_isWell_608 : decode cL_isWell 608 = .ok (.invokevirtual 31, 3) := by decide +kernel
theorem dL_isWell_611 : decode cL_isWell 611 = .ok (.if_icmp .ne 59, 3) := by decide +kernel
theorem dL_isWell_614 : decode cL_isWell 614 = .ok (.iload 10, 2) := by decide +kernel
theorem dL_isWell_616 : decode cL_isWell 616 = .ok (.aload_n 0, 1) := by decide +kernel
theorem dL_isWell_617 : decode cL_isWell 617 = .ok (.bipush 10, 2) := by decide +kernel
theorem dL_isWell_619 : decode cL_isWell 619 = .ok (.invokevirtual 31, 3) := by decide +kernel
theorem dL_isWell_622 : decode cL_isWell 622 = .ok (.iconst 1, 1) := by decide +kernel
theorem dL_isWell_623 : decode cL_isWell 623 = .ok (.if_icmp .ne 7, 3) := by decide +kernel
theorem dL_isWell_626 : decode cL_isWell 626 = .ok (.iconst 1, 1) := by decide +kernel
theorem dL_isWell_627 : decode cL_isWell 627 = .ok (.goto 4, 3) := by decide +kernel
theorem dL_isWell_630 : decode cL_isWell 630 = .ok (.iconst 0, 1) := by decide +kernel
theorem dL_isWell_631 : decode cL_isWell 631 = .ok (.if_icmp .ne 39, 3) := by decide +kernel
theorem dL_isWell_634 : decode cL_isWell 634 = .ok (.iload 10, 2) := by decide +kernel
theorem dL_isWell_636 : decode cL_isWell 636 = .ok (.aload_n 0, 1) := by decide +kernel
theorem dL_isWell_637 : decode cL_isWell 637 = .ok (.invokevirtual 56, 3) := by decide +kernel
theorem dL_isWell_640 : decode cL_isWell 640 = .ok (.ifCond .ne 7, 3) := by decide +kernel
theorem dL_isWell_643 : decode cL_isWell 643 = .ok (.iconst 1, 1) := by decide +kernel
theorem dL_isWell_644 : decode cL_isWell 644 = .ok (.goto 4, 3) := by decide +kernel
theorem dL_isWell_647 : decode cL_isWell 647 = .ok (.iconst 0, 1) := by decide +kernel
theorem dL_isWell_648 : decode cL_isWell 648 = .ok (.if_icmp .ne 22, 3) := by decide +kernel
theorem dL_isWell_651 : decode cL_isWell 651 = .ok (.aload_n 0, 1) := by decide +kernel
theorem dL_isWell_652 : decode cL_isWell 652 = .ok (.invokevirtual 79, 3) := by decide +kernel
theorem dL_isWell_655 : decode cL_isWell 655 = .ok (.iload 6, 2) := by decide +kernel
theorem dL_isWell_657 : decode cL_isWell 657 = .ok (.i2d, 1) := by decide +kernel
theorem dL_isWell_658 : decode cL_isWell 658 = .ok (.ldc2_w 89, 3) := by decide +kernel
theorem dL_isWell_661 : decode cL_isWell 661 = .ok (.ddiv, 1) := by decide +kernel
theorem dL_isWell_662 : decode cL_isWell 662 = .ok (.dcmp .l, 1) := by decide +kernel
theorem dL_isWell_663 : decode cL_isWell 663 = .ok (.ifCond .ne 7, 3) := by decide +kernel
theorem dL_isWell_666 : decode cL_isWell 666 = .ok (.iconst 1, 1) := by decide +kernel
theorem dL_isWell_667 : decode cL_isWell 667 = .ok (.goto 4, 3) := by decide +kernel
theorem dL_isWell_670 : decode cL_isWell 670 = .ok (.iconst 0, 1) := by decide +kernel
theorem dL_isWell_671 : decode cL_isWell 671 = .ok (.ireturn, 1) := by decide +kernel
set_option maxRecDepth 20000 in
theorem ggL_law_X5_init : GoodIn wsL_law wsX5_init := goodIn_r _ [5, 6, 7, 8, 9, 10, 11, 12, 13, 14, 15, 16, 17, 18, 19, 20, 21, 22, 23, 24, 25, 26, 27, 28, 29, 30, 31, 32, 33, 34, 35, 36, 37, 38, 39, 40, 41, 42, 43, 44, 45, 46, 47, 48, 49, 50, 51, 52, 53, 54, 55, 56, 57, 58, 59, 60, 61, 62, 63, 64, 65, 66, 67, 68, 69, 70, 71, 72, 73, 74, 75, 76, 77, 78, 79, 413, 414, 415, 416, 417, 418, 419, 404, 405, 406, 407, 408, 409, 410, 411, 412, 420, 421, 422, 423, 424, 425, 426, 427, 428, 429, 430, 431, 432, 433] (by decide +kernel) (by decide +kernel)
