theorem dL_law_598 : decode cL_law 598 = .ok (.iconst 1, 1) := by decide +kernel
theorem dL_law_599 : decode cL_law 599 = .ok (.if_icmp .eq 40, 3) := by decide +kernel
theorem dL_law_602 : decode cL_law 602 = .ok (.iload 28, 2) := by decide +kernel
theorem dL_law_604 : decode cL_law 604 = .ok (.iconst 1, 1) := by decide +kernel
theorem dL_law_605 : decode cL_law 605 = .ok (.if_icmp .lt 34, 3) := by decide +kernel
theorem dL_law_608 : decode cL_law 608 = .ok (.iload 28, 2) := by decide +kernel
theorem dL_law_610 : decode cL_law 610 = .ok (.iconst 5, 1) := by decide +kernel
theorem dL_law_611 : decode cL_law 611 = .ok (.if_icmp .gt 28, 3) := by decide +kernel
theorem dL_law_614 : decode cL_law 614 = .ok (.aload_n 1, 1) := by decide +kernel
theorem dL_law_615 : decode cL_law 615 = .ok (.iload 14, 2) := by decide +kernel
theorem dL_law_617 : decode cL_law 617 = .ok (.iload 27, 2) := by decide +kernel
theorem dL_law_619 : decode cL_law 619 = .ok (.invokevirtual 212, 3) := by decide +kernel
theorem dL_law_622 : decode cL_law 622 = .ok (.iconst 2, 1) := by decide +kernel
theorem dL_law_623 : decode cL_law 623 = .ok (.if_icmp .gt 16, 3) := by decide +kernel
theorem dL_law_626 : decode cL_law 626 = .ok (.aload_n 1, 1) := by decide +kernel
theorem dL_law_627 : decode cL_law 627 = .ok (.iload 14, 2) := by decide +kernel
theorem dL_law_629 : decode cL_law 629 = .ok (.iload 27, 2) := by decide +kernel
theorem dL_law_631 : decode cL_law 631 = .ok (.invokestatic 215, 3) := by decide +kernel
theorem dL_law_634 : decode cL_law 634 = .ok (.iload 30, 2) := by decide +kernel
theorem dL_law_636 : decode cL_law 636 = .ok (.if_icmp .eq 5, 3) := by decide +kernel
theorem dL_law_639 : decode cL_law 639 = .ok (.iconst 0, 1) := by decide +kernel
theorem dL_law_640 : decode cL_law 640 = .ok (.ireturn, 1) := by decide +kernel
theorem dL_law_641 : decode cL_law 641 = .ok (.iload 22, 2) := by decide +kernel
theorem dL_law_643 : decode cL_law 643 = .ok (.iconst 1, 1) := by decide +kernel
theorem dL_law_644 : decode cL_law 644 = .ok (.iload 27, 2) := by decide +kernel
theorem dL_law_646 : decode cL_law 646 = .ok (.ishl, 1) := by decide +kernel
theorem dL_law_647 : decode cL_law 647 = .ok (.ior, 1) := by decide +kernel
theorem dL_law_648 : decode cL_law 648 = .ok (.istore 22, 2) := by decide +kernel
theorem dL_law_650 : decode cL_law 650 = .ok (.aload 13, 2) := by decide +kernel
theorem dL_law_652 : decode cL_law 652 = .ok (.iload 27, 2) := by decide +kernel
theorem dL_law_654 : decode cL_law 654 = .ok (.dup2, 1) := by decide +kernel
theorem dL_law_655 : decode cL_law 655 = .ok (.iaload, 1) := by decide +kernel
theorem dL_law_656 : decode cL_law 656 = .ok (.iconst 1, 1) := by decide +kernel
theorem dL_law_657 : decode cL_law 657 = .ok (.iadd, 1) := by decide +kernel
theorem dL_law_658 : decode cL_law 658 = .ok (.iastore, 1) := by decide +kernel
theorem dL_law_659 : decode cL_law 659 = .ok (.iload 23, 2) := by decide +kernel
theorem dL_law_661 : decode cL_law 661 = .ok (.sipush (-30000), 3) := by decide +kernel
theorem dL_law_664 : decode cL_law 664 = .ok (.if_icmp .eq 30, 3) := by decide +kernel
theorem dL_law_667 : decode cL_law 667 = .ok (.iload 28, 2) := by decide +kernel
theorem dL_law_669 : decode cL_law 669 = .ok (.aload_n 1, 1) := by decide +kernel
theorem dL_law_670 : decode cL_law 670 = .ok (.iload 27, 2) := by decide +kernel
theorem dL_law_672 : decode cL_law 672 = .ok (.invokevirtual 119, 3) := by decide +kernel
theorem dL_law_675 : decode cL_law 675 = .ok (.imul, 1) := by decide +kernel
theorem dL_law_676 : decode cL_law 676 = .ok (.aload_n 1, 1) := by decide +kernel
theorem dL_law_677 : decode cL_law 677 = .ok (.iload 14, 2) := by decide +kernel
theorem dL_law_679 : decode cL_law 679 = .ok (.iload 23, 2) := by decide +kernel
theorem dL_law_681 : decode cL_law 681 = .ok (.invokevirtual 116, 3) := by decide +kernel
theorem dL_law_684 : decode cL_law 684 = .ok (.aload_n 1, 1) := by decide +kernel
theorem dL_law_685 : decode cL_law 685 = .ok (.iload 23, 2) := by decide +kernel
theorem dL_law_687 : decode cL_law 687 = .ok (.invokevirtual 119, 3) := by decide +kernel
theorem dL_law_690 : decode cL_law 690 = .ok (.imul, 1) := by decide +kernel
theorem dL_law_691 : decode cL_law 691 = .ok (.if_icmp .le 8, 3) := by decide +kernel
theorem dL_law_694 : decode cL_law 694 = .ok (.iload 27, 2) := by decide +kernel
theorem dL_law_696 : decode cL_law 696 = .ok (.goto 5, 3) := by decide +kernel
theorem dL_law_699 : decode cL_law 699 = .ok (.iload 23, 2) := by decide +kernel
theorem dL_law_701 : decode cL_law 701 = .ok (.istore 23, 2) := by decide +kernel
theorem dL_law_703 : decode cL_law 703 = .ok (.new 152, 3) := by decide +kernel
theorem dL_law_706 : decode cL_law 706 = .ok (.dup, 1) := by decide +kernel
theorem dL_law_707 : decode cL_law 707 = .ok (.invokespecial 154, 3) := by decide +kernel
theorem dL_law_710 : decode cL_law 710 = .ok (.aload 25, 2) := by decide +kernel
theorem dL_law_712 : decode cL_law 712 = .ok (.invokevirtual 161, 3) := by decide +kernel
theorem dL_law_715 : decode cL_law 715 = .ok (.ldc 217, 2) := by decide +kernel
theorem dL_law_717 : decode cL_law 717 = .ok (.invokevirtual 161, 3) := by decide +kernel
theorem dL_law_720 : decode cL_law 720 = .ok (.iload 29, 2) := by decide +kernel
theorem dL_law_722 : decode cL_law 722 = .ok (.iconst 1, 1) := by decide +kernel
theorem dL_law_723 : decode cL_law 723 = .ok (.if_icmp .ne 8, 3) := by decide +kernel
theorem dL_law_726 : decode cL_law 726 = .ok (.ldc 219, 2) := by decide +kernel
theorem dL_law_728 : decode cL_law 728 = .ok (.goto 5, 3) := by decide +kernel
theorem dL_law_731 : decode cL_law 731 = .ok (.ldc 221, 2) := by decide +kernel
theorem dL_law_733 : decode cL_law 733 = .ok (.invokevirtual 161, 3) := by decide +kernel
theorem dL_law_736 : decode cL_law 736 = .ok (.iload 27, 2) := by decide +kernel
theorem dL_law_738 : decode cL_law 738 = .ok (.invokevirtual 155, 3) := by decide +kernel
theorem dL_law_741 : decode cL_law 741 = .ok (.ldc 223, 2) := by decide +kernel
theorem dL_law_743 : decode cL_law 743 = .ok (.invokevirtual 161, 3) := by decide +kernel
theorem dL_law_746 : decode cL_law 746 = .ok (.iload 28, 2) := by decide +kernel
theorem dL_law_748 : decode cL_law 748 = .ok (.invokevirtual 155, 3) := by decide +kernel
theorem dL_law_751 : decode cL_law 751 = .ok (.invokevirtual 179, 3) := by decide +kernel
theorem dL_law_754 : decode cL_law 754 = .ok (.astore 25, 2) := by decide +kernel
theorem dL_law_756 : decode cL_law 756 = .ok (.iinc 26 1, 3) := by decide +kernel
theorem dL_law_759 : decode cL_law 759 = .ok (.goto (-274), 3) := by decide +kernel
theorem dL_law_762 : decode cL_law 762 = .ok (.iconst 0, 1) := by decide +kernel
theorem dL_law_763 : decode cL_law 763 = .ok (.istore 26, 2) := by decide +kernel
theorem dL_law_765 : decode cL_law 765 = .ok (.iload 26, 2) := by decide +kernel
theorem dL_law_767 : decode cL_law 767 = .ok (.iload 4, 2) := by decide +kernel
theorem dL_law_769 : decode cL_law 769 = .ok (.if_icmp .ge 63, 3) := by decide +kernel
theorem dL_law_772 : decode cL_law 772 = .ok (.aload 12, 2) := by decide +kernel
theorem dL_law_774 : decode cL_law 774 = .ok (.iload 26, 2) := by decide +kernel
theorem dL_law_776 : decode cL_law 776 = .ok (.dup2, 1) := by decide +kernel
theorem dL_law_777 : decode cL_law 777 = .ok (.iaload, 1) := by decide +kernel
theorem dL_law_778 : decode cL_law 778 = .ok (.iload 22, 2) := by decide +kernel
theorem dL_law_780 : decode cL_law 780 = .ok (.iload 26, 2) := by decide +kernel
theorem dL_law_782 : decode cL_law 782 = .ok (.ishr, 1) := by decide +kernel
theorem dL_law_783 : decode cL_law 783 = .ok (.iconst 1, 1) := by decide +kernel
theorem dL_law_784 : decode cL_law 784 = .ok (.iand, 1) := by decide +kernel
theorem dL_law_785 : decode cL_law 785 = .ok (.iconst 1, 1) := by decide +kernel
theorem dL_law_786 : decode cL_law 786 = .ok (.if_icmp .ne 8, 3) := by decide +kernel
theorem dL_law_789 : decode cL_law 789 = .ok (.iload 22, 2) := by decide +kernel
theorem dL_law_791 : decode cL_law 791 = .ok (.goto 4, 3) := by decide +kernel
theorem dL_law_794 : decode cL_law 794 = .ok (.iconst 0, 1) := by decide +kernel
theorem dL_law_795 : decode cL_law 795 = .ok (.ior, 1) := by decide +kernel
theorem dL_law_796 : decode cL_law 796 = .ok (.iastore, 1) := by decide +kernel
theorem dL_law_797 : decode cL_law 797 = .ok (.aload_n 1, 1) := by decide +kernel
theorem dL_law_798 : decode cL_law 798 = .ok (.iload 14, 2) := by decide +kernel
theorem dL_law_800 : decode cL_law 800 = .ok (.iload 26, 2) := by decide +kernel
theorem dL_law_802 : decode cL_law 802 = .ok (.invokevirtual 209, 3) := by decide +kernel
theorem dL_law_805 : decode cL_law 805 = .ok (.iload 22, 2) := by decide +kernel
theorem dL_law_807 : decode cL_law 807 = .ok (.iload 26, 2) := by decide +kernel
theorem dL_law_809 : decode cL_law 809 = .ok (.ishr, 1) := by decide +kernel
theorem dL_law_810 : decode cL_law 810 = .ok (.iconst 1, 1) := by decide +kernel
theorem dL_law_811 : decode cL_law 811 = .ok (.iand, 1) := by decide +kernel
theorem dL_law_812 : decode cL_law 812 = .ok (.iconst 1, 1) := by decide +kernel
theorem dL_law_813 : decode cL_law 813 = .ok (.if_icmp .ne 7, 3) := by decide +kernel
theorem dL_law_816 : decode cL_law 816 = .ok (.iconst 1, 1) := by decide +kernel
theorem dL_law_817 : decode cL_law 817 = .ok (.goto 4, 3) := by decide +kernel
theorem dL_law_820 : decode cL_law 820 = .ok (.iconst 0, 1) := by decide +kernel
theorem dL_law_821 : decode cL_law 821 = .ok (.if_icmp .eq 5, 3) := by decide +kernel
theorem dL_law_824 : decode cL_law 824 = .ok (.iconst 0, 1) := by decide +kernel
theorem dL_law_825 : decode cL_law 825 = .ok (.ireturn, 1) := by decide +kernel
theorem dL_law_826 : decode cL_law 826 = .ok (.iinc 26 1, 3) := by decide +kernel
theorem dL_law_829 : decode cL_law 829 = .ok (.goto (-64), 3) := by decide +kernel
theorem dL_law_832 : decode cL_law 832 = .ok (.aload_n 1, 1) := by decide +kernel
theorem dL_law_833 : decode cL_law 833 = .ok (.aload_n 1, 1) := by decide +kernel
theorem dL_law_834 : decode cL_law 834 = .ok (.iload 14, 2) := by decide +kernel
theorem dL_law_836 : decode cL_law 836 = .ok (.invokevirtual 225, 3) := by decide +kernel
theorem dL_law_839 : decode cL_law 839 = .ok (.aload 25, 2) := by decide +kernel
theorem dL_law_841 : decode cL_law 841 = .ok (.invokestatic 228, 3) := by decide +kernel
theorem dL_law_844 : decode cL_law 844 = .ok (.ifCond .eq 14, 3) := by decide +kernel
theorem dL_law_847 : decode cL_law 847 = .ok (.aload_n 1, 1) := by decide +kernel
theorem dL_law_848 : decode cL_law 848 = .ok (.iload 14, 2) := by decide +kernel
theorem dL_law_850 : decode cL_law 850 = .ok (.invokestatic 232, 3) := by decide +kernel
theorem dL_law_853 : decode cL_law 853 = .ok (.iload 23, 2) := by decide +kernel
theorem dL_law_855 : decode cL_law 855 = .ok (.if_icmp .eq 5, 3) := by decide +kernel
theorem dL_law_858 : decode cL_law 858 = .ok (.iconst 0, 1) := by decide +kernel
theorem dL_law_859 : decode cL_law 859 = .ok (.ireturn, 1) := by decide +kernel
theorem dL_law_860 : decode cL_law 860 = .ok (.iload 6, 2) := by decide +kernel
theorem dL_law_862 : decode cL_law 862 = .ok (.aload_n 1, 1) := by decide +kernel
theorem dL_law_863 : decode cL_law 863 = .ok (.iload 14, 2) := by decide +kernel
theorem dL_law_865 : decode cL_law 865 = .ok (.invokevirtual 172, 3) := by decide +kernel
theorem dL_law_868 : decode cL_law 868 = .ok (.ifCond .eq 7, 3) := by decide +kernel
theorem dL_law_871 : decode cL_law 871 = .ok (.iconst 1, 1) := by decide +kernel
theorem dL_law_872 : decode cL_law 872 = .ok (.goto 4, 3) := by decide +kernel
theorem dL_law_875 : decode cL_law 875 = .ok (.iconst 0, 1) := by decide +kernel
theorem dL_law_876 : decode cL_law 876 = .ok (.iadd, 1) := by decide +kernel
theorem dL_law_877 : decode cL_law 877 = .ok (.istore 6, 2) := by decide +kernel
theorem dL_law_879 : decode cL_law 879 = .ok (.iload 7, 2) := by decide +kernel
theorem dL_law_881 : decode cL_law 881 = .ok (.iload 18, 2) := by decide +kernel
theorem dL_law_883 : decode cL_law 883 = .ok (.iconst 1, 1) := by decide +kernel
theorem dL_law_884 : decode cL_law 884 = .ok (.if_icmp .ne 7, 3) := by decide +kernel
theorem dL_law_887 : decode cL_law 887 = .ok (.iconst 1, 1) := by decide +kernel
theorem dL_law_888 : decode cL_law 888 = .ok (.goto 4, 3) := by decide +kernel
theorem dL_law_891 : decode cL_law 891 = .ok (.iconst 0, 1) := by decide +kernel
theorem dL_law_892 : decode cL_law 892 = .ok (.iadd, 1) := by decide +kernel
theorem dL_law_893 : decode cL_law 893 = .ok (.istore 7, 2) := by decide +kernel
theorem dL_law_895 : decode cL_law 895 = .ok (.aload 11, 2) := by decide +kernel
theorem dL_law_897 : decode cL_law 897 = .ok (.iload 15, 2) := by decide +kernel
theorem dL_law_899 : decode cL_law 899 = .ok (.dup2, 1) := by decide +kernel
theorem dL_law_900 : decode cL_law 900 = .ok (.iaload, 1) := by decide +kernel
theorem dL_law_901 : decode cL_law 901 = .ok (.iload 18, 2) := by decide +kernel
theorem dL_law_903 : decode cL_law 903 = .ok (.iconst 1, 1) := by decide +kernel
theorem dL_law_904 : decode cL_law 904 = .ok (.if_icmp .ne 10, 3) := by decide +kernel
theorem dL_law_907 : decode cL_law 907 = .ok (.iload 16, 2) := by decide +kernel
theorem dL_law_909 : decode cL_law 909 = .ok (.iconst 1, 1) := by decide +kernel
theorem dL_law_910 : decode cL_law 910 = .ok (.iadd, 1) := by decide +kernel
theorem dL_law_911 : decode cL_law 911 = .ok (.goto 4, 3) := by decide +kernel
theorem dL_law_914 : decode cL_law 914 = .ok (.iconst 0, 1) := by decide +kernel
theorem dL_law_915 : decode cL_law 915 = .ok (.iadd, 1) := by decide +kernel
theorem dL_law_916 : decode cL_law 916 = .ok (.iastore, 1) := by decide +kernel
theorem dL_law_917 : decode cL_law 917 = .ok (.aload_n 1, 1) := by decide +kernel
theorem dL_law_918 : decode cL_law 918 = .ok (.iload 14, 2) := by decide +kernel
theorem dL_law_920 : decode cL_law 920 = .ok (.invokevirtual 186, 3) := by decide +kernel
theorem dL_law_923 : decode cL_law 923 = .ok (.ifCond .ne 17, 3) := by decide +kernel
theorem dL_law_926 : decode cL_law 926 = .ok (.aload_n 1, 1) := by decide +kernel
theorem dL_law_927 : decode cL_law 927 = .ok (.iload 14, 2) := by decide +kernel
theorem dL_law_929 : decode cL_law 929 = .ok (.invokestatic 234, 3) := by decide +kernel
theorem dL_law_932 : decode cL_law 932 = .ok (.sipush (-10000), 3) := by decide +kernel
theorem dL_law_935 : decode cL_law 935 = .ok (.if_icmp .eq 148, 3) := by decide +kernel
theorem dL_law_938 : decode cL_law 938 = .ok (.iconst 0, 1) := by decide +kernel
theorem dL_law_939 : decode cL_law 939 = .ok (.ireturn, 1) := by decide +kernel
theorem dL_law_940 : decode cL_law 940 = .ok (.iinc 5 1, 3) := by decide +kernel
theorem dL_law_943 : decode cL_law 943 = .ok (.iconst 0, 1) := by decide +kernel
theorem dL_law_944 : decode cL_law 944 = .ok (.istore 26, 2) := by decide +kernel
theorem dL_law_946 : decode cL_law 946 = .ok (.iload 26, 2) := by decide +kernel
theorem dL_law_948 : decode cL_law 948 = .ok (.iload_n 3, 1) := by decide +kernel
theorem dL_law_949 : decode cL_law 949 = .ok (.if_icmp .ge 77, 3) := by decide +kernel
theorem dL_law_952 : decode cL_law 952 = .ok (.aload_n 1, 1) := by decide +kernel
theorem dL_law_953 : decode cL_law 953 = .ok (.iload 26, 2) := by decide +kernel
theorem dL_law_955 : decode cL_law 955 = .ok (.invokevirtual 142, 3) := by decide +kernel
theorem dL_law_958 : decode cL_law 958 = .ok (.iload 16, 2) := by decide +kernel
theorem dL_law_960 : decode cL_law 960 = .ok (.isub, 1) := by decide +kernel
theorem dL_law_961 : decode cL_law 961 = .ok (.istore 27, 2) := by decide +kernel
theorem dL_law_963 : decode cL_law 963 = .ok (.aload_n 1, 1) := by decide +kernel
theorem dL_law_964 : decode cL_law 964 = .ok (.iload 26, 2) := by decide +kernel
theorem dL_law_966 : decode cL_law 966 = .ok (.invokevirtual 109, 3) := by decide +kernel
theorem dL_law_969 : decode cL_law 969 = .ok (.iload 17, 2) := by decide +kernel
theorem dL_law_971 : decode cL_law 971 = .ok (.isub, 1) := by decide +kernel
theorem dL_law_972 : decode cL_law 972 = .ok (.istore 28, 2) := by decide +kernel
theorem dL_law_974 : decode cL_law 974 = .ok (.iload 24, 2) := by decide +kernel
theorem dL_law_976 : decode cL_law 976 = .ok (.aload_n 1, 1) := by decide +kernel
theorem dL_law_977 : decode cL_law 977 = .ok (.iload 26, 2) := by decide +kernel
theorem dL_law_979 : decode cL_law 979 = .ok (.invokevirtual 186, 3) := by decide +kernel
theorem dL_law_982 : decode cL_law 982 = .ok (.ifCond .eq 34, 3) := by decide +kernel
theorem dL_law_985 : decode cL_law 985 = .ok (.iload 27, 2) := by decide +kernel
theorem dL_law_987 : decode cL_law 987 = .ok (.ifCond .gt 25, 3) := by decide +kernel
theorem dL_law_990 : decode cL_law 990 = .ok (.iload 27, 2) := by decide +kernel
theorem dL_law_992 : decode cL_law 992 = .ok (.ifCond .ne 24, 3) := by decide +kernel
theorem dL_law_995 : decode cL_law 995 = .ok (.iload 28, 2) := by decide +kernel
theorem dL_law_997 : decode cL_law 997 = .ok (.ifCond .gt 15, 3) := by decide +kernel
theorem dL_law_1000 : decode cL_law 1000 = .ok (.iload 28, 2) := by decide +kernel
theorem dL_law_1002 : decode cL_law 1002 = .ok (.ifCond .ne 14, 3) := by decide +kernel
theorem dL_law_1005 : decode cL_law 1005 = .ok (.iload 26, 2) := by decide +kernel
theorem dL_law_1007 : decode cL_law 1007 = .ok (.iload 14, 2) := by decide +kernel
theorem dL_law_1009 : decode cL_law 1009 = .ok (.if_icmp .ge 7, 3) := by decide +kernel
theorem dL_law_1012 : decode cL_law 1012 = .ok (.iconst 1, 1) := by decide +kernel
theorem dL_law_1013 : decode cL_law 1013 = .ok (.goto 4, 3) := by decide +kernel
theorem dL_law_1016 : decode cL_law 1016 = .ok (.iconst 0, 1) := by decide +kernel
theorem dL_law_1017 : decode cL_law 1017 = .ok (.iadd, 1) := by decide +kernel
theorem dL_law_1018 : decode cL_law 1018 = .ok (.istore 24, 2) := by decide +kernel
theorem dL_law_1020 : decode cL_law 1020 = .ok (.iinc 26 1, 3) := by decide +kernel
theorem dL_law_1023 : decode cL_law 1023 = .ok (.goto (-77), 3) := by decide +kernel
theorem dL_law_1026 : decode cL_law 1026 = .ok (.aload_n 1, 1) := by decide +kernel
theorem dL_law_1027 : decode cL_law 1027 = .ok (.iload 14, 2) := by decide +kernel
theorem dL_law_1029 : decode cL_law 1029 = .ok (.invokevirtual 64, 3) := by decide +kernel
theorem dL_law_1032 : decode cL_law 1032 = .ok (.iload 24, 2) := by decide +kernel
theorem dL_law_1034 : decode cL_law 1034 = .ok (.if_icmp .ne 14, 3) := by decide +kernel
theorem dL_law_1037 : decode cL_law 1037 = .ok (.aload_n 1, 1) := by decide +kernel
theorem dL_law_1038 : decode cL_law 1038 = .ok (.iload 24, 2) := by decide +kernel
theorem dL_law_1040 : decode cL_law 1040 = .ok (.invokevirtual 61, 3) := by decide +kernel
theorem dL_law_1043 : decode cL_law 1043 = .ok (.iload 14, 2) := by decide +kernel
theorem dL_law_1045 : decode cL_law 1045 = .ok (.if_icmp .eq 5, 3) := by decide +kernel
theorem dL_law_1048 : decode cL_law 1048 = .ok (.iconst 0, 1) := by decide +kernel
theorem dL_law_1049 : decode cL_law 1049 = .ok (.ireturn, 1) := by decide +kernel
theorem dL_law_1050 : decode cL_law 1050 = .ok (.iload 17, 2) := by decide +kernel
theorem dL_law_1052 : decode cL_law 1052 = .ok (.ifCond .le 27, 3) := by decide +kernel
theorem dL_law_1055 : decode cL_law 1055 = .ok (.iload 9, 2) := by decide +kernel
theorem dL_law_1057 : decode cL_law 1057 = .ok (.sipush (-30000), 3) := by decide +kernel
theorem dL_law_1060 : decode cL_law 1060 = .ok (.if_icmp .eq 14, 3) := by decide +kernel
theorem dL_law_1063 : decode cL_law 1063 = .ok (.iload 24, 2) := by decide +kernel
theorem dL_law_1065 : decode cL_law 1065 = .ok (.aload_n 1, 1) := by decide +kernel
theorem dL_law_1066 : decode cL_law 1066 = .ok (.iload 9, 2) := by decide +kernel
theorem dL_law_1068 : decode cL_law 1068 = .ok (.invokevirtual 64, 3) := by decide +kernel
theorem dL_law_1071 : decode cL_law 1071 = .ok (.if_icmp .ge 8, 3) := by decide +kernel
theorem dL_law_1074 : decode cL_law 1074 = .ok (.iload 14, 2) := by decide +kernel
theorem dL_law_1076 : decode cL_law 1076 = .ok (.goto 5, 3) := by decide +kernel
theorem dL_law_1079 : decode cL_law 1079 = .ok (.iload 9, 2) := by decide +kernel
theorem dL_law_1081 : decode cL_law 1081 = .ok (.istore 9, 2) := by decide +kernel
theorem dL_law_1083 : decode cL_law 1083 = .ok (.iinc 14 1, 3) := by decide +kernel
theorem dL_law_1086 : decode cL_law 1086 = .ok (.goto (-989), 3) := by decide +kernel
theorem dL_law_1089 : decode cL_law 1089 = .ok (.iconst 0, 1) := by decide +kernel
theorem dL_law_1090 : decode cL_law 1090 = .ok (.istore 14, 2) := by decide +kernel
theorem dL_law_1092 : decode cL_law 1092 = .ok (.iload 14, 2) := by decide +kernel
theorem dL_law_1094 : decode cL_law 1094 = .ok (.bipush 8, 2) := by decide +kernel
theorem dL_law_1096 : decode cL_law 1096 = .ok (.if_icmp .ge 72, 3) := by decide +kernel
theorem dL_law_1099 : decode cL_law 1099 = .ok (.iconst 0, 1) := by decide +kernel
theorem dL_law_1100 : decode cL_law 1100 = .ok (.istore 15, 2) := by decide +kernel
theorem dL_law_1102 : decode cL_law 1102 = .ok (.iload 15, 2) := by decide +kernel
theorem dL_law_1104 : decode cL_law 1104 = .ok (.iload 4, 2) := by decide +kernel
theorem dL_law_1106 : decode cL_law 1106 = .ok (.if_icmp .ge 56, 3) := by decide +kernel
theorem dL_law_1109 : decode cL_law 1109 = .ok (.iconst 0, 1) := by decide +kernel
theorem dL_law_1110 : decode cL_law 1110 = .ok (.istore 16, 2) := by decide +kernel
theorem dL_law_1112 : decode cL_law 1112 = .ok (.iload 16, 2) := by decide +kernel
theorem dL_law_1114 : decode cL_law 1114 = .ok (.iload 4, 2) := by decide +kernel
theorem dL_law_1116 : decode cL_law 1116 = .ok (.if_icmp .ge 40, 3) := by decide +kernel
theorem dL_law_1119 : decode cL_law 1119 = .ok (.aload 12, 2) := by decide +kernel
theorem dL_law_1121 : decode cL_law 1121 = .ok (.iload 15, 2) := by decide +kernel
theorem dL_law_1123 : decode cL_law 1123 = .ok (.dup2, 1) := by decide +kernel
theorem dL_law_1124 : decode cL_law 1124 = .ok (.iaload, 1) := by decide +kernel
theorem dL_law_1125 : decode cL_law 1125 = .ok (.aload 12, 2) := by decide +kernel
theorem dL_law_1127 : decode cL_law 1127 = .ok (.iload 15, 2) := by decide +kernel
theorem dL_law_1129 : decode cL_law 1129 = .ok (.iaload, 1) := by decide +kernel
theorem dL_law_1130 : decode cL_law 1130 = .ok (.iload 16, 2) := by decide +kernel
theorem dL_law_1132 : decode cL_law 1132 = .ok (.ishr, 1) := by decide +kernel
theorem dL_law_1133 : decode cL_law 1133 = .ok (.iconst 1, 1) := by decide +kernel
theorem dL_law_1134 : decode cL_law 1134 = .ok (.iand, 1) := by decide +kernel
theorem dL_law_1135 : decode cL_law 1135 = .ok (.iconst 1, 1) := by decide +kernel
theorem dL_law_1136 : decode cL_law 1136 = .ok (.if_icmp .ne 11, 3) := by decide +kernel
theorem dL_law_1139 : decode cL_law 1139 = .ok (.aload 12, 2) := by decide +kernel
theorem dL_law_1141 : decode cL_law 1141 = .ok (.iload 16, 2) := by decide +kernel
theorem dL_law_1143 : decode cL_law 1143 = .ok (.iaload, 1) := by decide +kernel
theorem dL_law_1144 : decode cL_law 1144 = .ok (.goto 4, 3) := by decide +kernel
theorem dL_law_1147 : decode cL_law 1147 = .ok (.iconst 0, 1) := by decide +kernel
theorem dL_law_1148 : decode cL_law 1148 = .ok (.ior, 1) := by decide +kernel
theorem dL_law_1149 : decode cL_law 1149 = .ok (.iastore, 1) := by decide +kernel
theorem dL_law_1150 : decode cL_law 1150 = .ok (.iinc 16 1, 3) := by decide +kernel
theorem dL_law_1153 : decode cL_law 1153 = .ok (.goto (-41), 3) := by decide +kernel
theorem dL_law_1156 : decode cL_law 1156 = .ok (.iinc 15 1, 3) := by decide +kernel
theorem dL_law_1159 : decode cL_law 1159 = .ok (.goto (-57), 3) := by decide +kernel
theorem dL_law_1162 : decode cL_law 1162 = .ok (.iinc 14 1, 3) := by decide +kernel
theorem dL_law_1165 : decode cL_law 1165 = .ok (.goto (-73), 3) := by decide +kernel
theorem dL_law_1168 : decode cL_law 1168 = .ok (.iconst 0, 1) := by decide +kernel
theorem dL_law_1169 : decode cL_law 1169 = .ok (.istore 14, 2) := by decide +kernel
theorem dL_law_1171 : decode cL_law 1171 = .ok (.iload 14, 2) := by decide +kernel
theorem dL_law_1173 : decode cL_law 1173 = .ok (.iload 4, 2) := by decide +kernel
theorem dL_law_1175 : decode cL_law 1175 = .ok (.if_icmp .ge 290, 3) := by decide +kernel
theorem dL_law_1178 : decode cL_law 1178 = .ok (.iload 8, 2) := by decide +kernel
theorem dL_law_1180 : decode cL_law 1180 = .ok (.aload_n 1, 1) := by decide +kernel
theorem dL_law_1181 : decode cL_law 1181 = .ok (.iload 14, 2) := by decide +kernel
theorem dL_law_1183 : decode cL_law 1183 = .ok (.invokevirtual 119, 3) := by decide +kernel
