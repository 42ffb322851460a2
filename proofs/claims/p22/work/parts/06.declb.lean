theorem dL_builds_623 : decode cL_builds 623 = .ok (.iconst 1, 1) := by decide +kernel
theorem dL_builds_624 : decode cL_builds 624 = .ok (.invokestatic 121, 3) := by decide +kernel
theorem dL_builds_627 : decode cL_builds 627 = .ok (.bipush (-71), 2) := by decide +kernel
theorem dL_builds_629 : decode cL_builds 629 = .ok (.if_icmp .ne 7, 3) := by decide +kernel
theorem dL_builds_632 : decode cL_builds 632 = .ok (.iconst 1, 1) := by decide +kernel
theorem dL_builds_633 : decode cL_builds 633 = .ok (.goto 4, 3) := by decide +kernel
theorem dL_builds_636 : decode cL_builds 636 = .ok (.iconst 0, 1) := by decide +kernel
theorem dL_builds_637 : decode cL_builds 637 = .ok (.ireturn, 1) := by decide +kernel
theorem dL_builds_638 : decode cL_builds 638 = .ok (.iload_n 1, 1) := by decide +kernel
theorem dL_builds_639 : decode cL_builds 639 = .ok (.bipush 9, 2) := by decide +kernel
theorem dL_builds_641 : decode cL_builds 641 = .ok (.if_icmp .ne 90, 3) := by decide +kernel
theorem dL_builds_644 : decode cL_builds 644 = .ok (.aload 6, 2) := by decide +kernel
theorem dL_builds_646 : decode cL_builds 646 = .ok (.iload 10, 2) := by decide +kernel
theorem dL_builds_648 : decode cL_builds 648 = .ok (.iaload, 1) := by decide +kernel
theorem dL_builds_649 : decode cL_builds 649 = .ok (.bipush 7, 2) := by decide +kernel
theorem dL_builds_651 : decode cL_builds 651 = .ok (.iand, 1) := by decide +kernel
theorem dL_builds_652 : decode cL_builds 652 = .ok (.istore 11, 2) := by decide +kernel
theorem dL_builds_654 : decode cL_builds 654 = .ok (.iload_n 3, 1) := by decide +kernel
theorem dL_builds_655 : decode cL_builds 655 = .ok (.bipush 24, 2) := by decide +kernel
theorem dL_builds_657 : decode cL_builds 657 = .ok (.iand, 1) := by decide +kernel
theorem dL_builds_658 : decode cL_builds 658 = .ok (.ifCond .ne 12, 3) := by decide +kernel
theorem dL_builds_661 : decode cL_builds 661 = .ok (.iload_n 3, 1) := by decide +kernel
theorem dL_builds_662 : decode cL_builds 662 = .ok (.bipush 8, 2) := by decide +kernel
theorem dL_builds_664 : decode cL_builds 664 = .ok (.invokestatic 101, 3) := by decide +kernel
theorem dL_builds_667 : decode cL_builds 667 = .ok (.goto 5, 3) := by decide +kernel
theorem dL_builds_670 : decode cL_builds 670 = .ok (.bipush 7, 2) := by decide +kernel
theorem dL_builds_672 : decode cL_builds 672 = .ok (.istore 12, 2) := by decide +kernel
theorem dL_builds_674 : decode cL_builds 674 = .ok (.aload 6, 2) := by decide +kernel
theorem dL_builds_676 : decode cL_builds 676 = .ok (.iload 10, 2) := by decide +kernel
theorem dL_builds_678 : decode cL_builds 678 = .ok (.dup2, 1) := by decide +kernel
theorem dL_builds_679 : decode cL_builds 679 = .ok (.iaload, 1) := by decide +kernel
theorem dL_builds_680 : decode cL_builds 680 = .ok (.iload 12, 2) := by decide +kernel
theorem dL_builds_682 : decode cL_builds 682 = .ok (.iload 11, 2) := by decide +kernel
theorem dL_builds_684 : decode cL_builds 684 = .ok (.isub, 1) := by decide +kernel
theorem dL_builds_685 : decode cL_builds 685 = .ok (.iadd, 1) := by decide +kernel
theorem dL_builds_686 : decode cL_builds 686 = .ok (.iastore, 1) := by decide +kernel
theorem dL_builds_687 : decode cL_builds 687 = .ok (.aload_n 0, 1) := by decide +kernel
theorem dL_builds_688 : decode cL_builds 688 = .ok (.iload 10, 2) := by decide +kernel
theorem dL_builds_690 : decode cL_builds 690 = .ok (.bipush 8, 2) := by decide +kernel
theorem dL_builds_692 : decode cL_builds 692 = .ok (.invokestatic 115, 3) := by decide +kernel
theorem dL_builds_695 : decode cL_builds 695 = .ok (.bipush (-72), 2) := by decide +kernel
theorem dL_builds_697 : decode cL_builds 697 = .ok (.if_icmp .ne 32, 3) := by decide +kernel
theorem dL_builds_700 : decode cL_builds 700 = .ok (.aload_n 0, 1) := by decide +kernel
theorem dL_builds_701 : decode cL_builds 701 = .ok (.iload 10, 2) := by decide +kernel
theorem dL_builds_703 : decode cL_builds 703 = .ok (.iconst (-1), 1) := by decide +kernel
theorem dL_builds_704 : decode cL_builds 704 = .ok (.invokestatic 115, 3) := by decide +kernel
theorem dL_builds_707 : decode cL_builds 707 = .ok (.bipush (-72), 2) := by decide +kernel
theorem dL_builds_709 : decode cL_builds 709 = .ok (.if_icmp .ne 20, 3) := by decide +kernel
theorem dL_builds_712 : decode cL_builds 712 = .ok (.aload_n 0, 1) := by decide +kernel
theorem dL_builds_713 : decode cL_builds 713 = .ok (.iload 10, 2) := by decide +kernel
theorem dL_builds_715 : decode cL_builds 715 = .ok (.iload 12, 2) := by decide +kernel
theorem dL_builds_717 : decode cL_builds 717 = .ok (.invokestatic 115, 3) := by decide +kernel
theorem dL_builds_720 : decode cL_builds 720 = .ok (.iload 11, 2) := by decide +kernel
theorem dL_builds_722 : decode cL_builds 722 = .ok (.if_icmp .ne 7, 3) := by decide +kernel
theorem dL_builds_725 : decode cL_builds 725 = .ok (.iconst 1, 1) := by decide +kernel
theorem dL_builds_726 : decode cL_builds 726 = .ok (.goto 4, 3) := by decide +kernel
theorem dL_builds_729 : decode cL_builds 729 = .ok (.iconst 0, 1) := by decide +kernel
theorem dL_builds_730 : decode cL_builds 730 = .ok (.ireturn, 1) := by decide +kernel
theorem dL_builds_731 : decode cL_builds 731 = .ok (.iload_n 3, 1) := by decide +kernel
theorem dL_builds_732 : decode cL_builds 732 = .ok (.bipush 6, 2) := by decide +kernel
theorem dL_builds_734 : decode cL_builds 734 = .ok (.iand, 1) := by decide +kernel
theorem dL_builds_735 : decode cL_builds 735 = .ok (.ifCond .le 7, 3) := by decide +kernel
theorem dL_builds_738 : decode cL_builds 738 = .ok (.iconst 1, 1) := by decide +kernel
theorem dL_builds_739 : decode cL_builds 739 = .ok (.goto 4, 3) := by decide +kernel
theorem dL_builds_742 : decode cL_builds 742 = .ok (.iconst 0, 1) := by decide +kernel
theorem dL_builds_743 : decode cL_builds 743 = .ok (.istore 11, 2) := by decide +kernel
theorem dL_builds_745 : decode cL_builds 745 = .ok (.iload_n 1, 1) := by decide +kernel
theorem dL_builds_746 : decode cL_builds 746 = .ok (.bipush 10, 2) := by decide +kernel
theorem dL_builds_748 : decode cL_builds 748 = .ok (.if_icmp .ne 87, 3) := by decide +kernel
theorem dL_builds_751 : decode cL_builds 751 = .ok (.iload_n 3, 1) := by decide +kernel
theorem dL_builds_752 : decode cL_builds 752 = .ok (.iconst 3, 1) := by decide +kernel
theorem dL_builds_753 : decode cL_builds 753 = .ok (.ishr, 1) := by decide +kernel
theorem dL_builds_754 : decode cL_builds 754 = .ok (.aload 9, 2) := by decide +kernel
theorem dL_builds_756 : decode cL_builds 756 = .ok (.iconst 0, 1) := by decide +kernel
theorem dL_builds_757 : decode cL_builds 757 = .ok (.iaload, 1) := by decide +kernel
theorem dL_builds_758 : decode cL_builds 758 = .ok (.invokestatic 101, 3) := by decide +kernel
theorem dL_builds_761 : decode cL_builds 761 = .ok (.istore 12, 2) := by decide +kernel
theorem dL_builds_763 : decode cL_builds 763 = .ok (.aload 6, 2) := by decide +kernel
theorem dL_builds_765 : decode cL_builds 765 = .ok (.iload 10, 2) := by decide +kernel
theorem dL_builds_767 : decode cL_builds 767 = .ok (.iaload, 1) := by decide +kernel
theorem dL_builds_768 : decode cL_builds 768 = .ok (.iconst 3, 1) := by decide +kernel
theorem dL_builds_769 : decode cL_builds 769 = .ok (.iload 12, 2) := by decide +kernel
theorem dL_builds_771 : decode cL_builds 771 = .ok (.iadd, 1) := by decide +kernel
theorem dL_builds_772 : decode cL_builds 772 = .ok (.ishr, 1) := by decide +kernel
theorem dL_builds_773 : decode cL_builds 773 = .ok (.iconst 1, 1) := by decide +kernel
theorem dL_builds_774 : decode cL_builds 774 = .ok (.iand, 1) := by decide +kernel
theorem dL_builds_775 : decode cL_builds 775 = .ok (.istore 13, 2) := by decide +kernel
theorem dL_builds_777 : decode cL_builds 777 = .ok (.aload 6, 2) := by decide +kernel
theorem dL_builds_779 : decode cL_builds 779 = .ok (.iload 10, 2) := by decide +kernel
theorem dL_builds_781 : decode cL_builds 781 = .ok (.iload 11, 2) := by decide +kernel
theorem dL_builds_783 : decode cL_builds 783 = .ok (.ifCond .eq 17, 3) := by decide +kernel
theorem dL_builds_786 : decode cL_builds 786 = .ok (.aload 6, 2) := by decide +kernel
theorem dL_builds_788 : decode cL_builds 788 = .ok (.iload 10, 2) := by decide +kernel
theorem dL_builds_790 : decode cL_builds 790 = .ok (.iaload, 1) := by decide +kernel
theorem dL_builds_791 : decode cL_builds 791 = .ok (.bipush 8, 2) := by decide +kernel
theorem dL_builds_793 : decode cL_builds 793 = .ok (.iload 12, 2) := by decide +kernel
theorem dL_builds_795 : decode cL_builds 795 = .ok (.ishl, 1) := by decide +kernel
theorem dL_builds_796 : decode cL_builds 796 = .ok (.ior, 1) := by decide +kernel
theorem dL_builds_797 : decode cL_builds 797 = .ok (.goto 16, 3) := by decide +kernel
theorem dL_builds_800 : decode cL_builds 800 = .ok (.aload 6, 2) := by decide +kernel
theorem dL_builds_802 : decode cL_builds 802 = .ok (.iload 10, 2) := by decide +kernel
theorem dL_builds_804 : decode cL_builds 804 = .ok (.iaload, 1) := by decide +kernel
theorem dL_builds_805 : decode cL_builds 805 = .ok (.bipush 8, 2) := by decide +kernel
theorem dL_builds_807 : decode cL_builds 807 = .ok (.iload 12, 2) := by decide +kernel
theorem dL_builds_809 : decode cL_builds 809 = .ok (.ishl, 1) := by decide +kernel
theorem dL_builds_810 : decode cL_builds 810 = .ok (.iconst (-1), 1) := by decide +kernel
theorem dL_builds_811 : decode cL_builds 811 = .ok (.ixor, 1) := by decide +kernel
theorem dL_builds_812 : decode cL_builds 812 = .ok (.iand, 1) := by decide +kernel
theorem dL_builds_813 : decode cL_builds 813 = .ok (.iastore, 1) := by decide +kernel
theorem dL_builds_814 : decode cL_builds 814 = .ok (.aload_n 0, 1) := by decide +kernel
theorem dL_builds_815 : decode cL_builds 815 = .ok (.iload 10, 2) := by decide +kernel
theorem dL_builds_817 : decode cL_builds 817 = .ok (.iload 12, 2) := by decide +kernel
theorem dL_builds_819 : decode cL_builds 819 = .ok (.iload 11, 2) := by decide +kernel
theorem dL_builds_821 : decode cL_builds 821 = .ok (.invokestatic 118, 3) := by decide +kernel
theorem dL_builds_824 : decode cL_builds 824 = .ok (.iload 13, 2) := by decide +kernel
theorem dL_builds_826 : decode cL_builds 826 = .ok (.if_icmp .ne 7, 3) := by decide +kernel
theorem dL_builds_829 : decode cL_builds 829 = .ok (.iconst 1, 1) := by decide +kernel
theorem dL_builds_830 : decode cL_builds 830 = .ok (.goto 4, 3) := by decide +kernel
theorem dL_builds_833 : decode cL_builds 833 = .ok (.iconst 0, 1) := by decide +kernel
theorem dL_builds_834 : decode cL_builds 834 = .ok (.ireturn, 1) := by decide +kernel
theorem dL_builds_835 : decode cL_builds 835 = .ok (.aload 9, 2) := by decide +kernel
theorem dL_builds_837 : decode cL_builds 837 = .ok (.iconst 1, 1) := by decide +kernel
theorem dL_builds_838 : decode cL_builds 838 = .ok (.iaload, 1) := by decide +kernel
theorem dL_builds_839 : decode cL_builds 839 = .ok (.ifCond .ne 23, 3) := by decide +kernel
theorem dL_builds_842 : decode cL_builds 842 = .ok (.aload_n 0, 1) := by decide +kernel
theorem dL_builds_843 : decode cL_builds 843 = .ok (.iload 10, 2) := by decide +kernel
theorem dL_builds_845 : decode cL_builds 845 = .ok (.iconst 0, 1) := by decide +kernel
theorem dL_builds_846 : decode cL_builds 846 = .ok (.iload 11, 2) := by decide +kernel
theorem dL_builds_848 : decode cL_builds 848 = .ok (.invokestatic 121, 3) := by decide +kernel
theorem dL_builds_851 : decode cL_builds 851 = .ok (.bipush (-71), 2) := by decide +kernel
theorem dL_builds_853 : decode cL_builds 853 = .ok (.if_icmp .ne 7, 3) := by decide +kernel
theorem dL_builds_856 : decode cL_builds 856 = .ok (.iconst 1, 1) := by decide +kernel
theorem dL_builds_857 : decode cL_builds 857 = .ok (.goto 4, 3) := by decide +kernel
theorem dL_builds_860 : decode cL_builds 860 = .ok (.iconst 0, 1) := by decide +kernel
theorem dL_builds_861 : decode cL_builds 861 = .ok (.ireturn, 1) := by decide +kernel
theorem dL_builds_862 : decode cL_builds 862 = .ok (.iload_n 3, 1) := by decide +kernel
theorem dL_builds_863 : decode cL_builds 863 = .ok (.iconst 3, 1) := by decide +kernel
theorem dL_builds_864 : decode cL_builds 864 = .ok (.ishr, 1) := by decide +kernel
theorem dL_builds_865 : decode cL_builds 865 = .ok (.aload 9, 2) := by decide +kernel
theorem dL_builds_867 : decode cL_builds 867 = .ok (.iconst 1, 1) := by decide +kernel
theorem dL_builds_868 : decode cL_builds 868 = .ok (.iaload, 1) := by decide +kernel
theorem dL_builds_869 : decode cL_builds 869 = .ok (.invokestatic 101, 3) := by decide +kernel
theorem dL_builds_872 : decode cL_builds 872 = .ok (.istore 12, 2) := by decide +kernel
theorem dL_builds_874 : decode cL_builds 874 = .ok (.aload 7, 2) := by decide +kernel
theorem dL_builds_876 : decode cL_builds 876 = .ok (.iload 10, 2) := by decide +kernel
theorem dL_builds_878 : decode cL_builds 878 = .ok (.iaload, 1) := by decide +kernel
theorem dL_builds_879 : decode cL_builds 879 = .ok (.iload 12, 2) := by decide +kernel
theorem dL_builds_881 : decode cL_builds 881 = .ok (.ishr, 1) := by decide +kernel
theorem dL_builds_882 : decode cL_builds 882 = .ok (.iconst 1, 1) := by decide +kernel
theorem dL_builds_883 : decode cL_builds 883 = .ok (.iand, 1) := by decide +kernel
theorem dL_builds_884 : decode cL_builds 884 = .ok (.istore 13, 2) := by decide +kernel
theorem dL_builds_886 : decode cL_builds 886 = .ok (.aload 7, 2) := by decide +kernel
theorem dL_builds_888 : decode cL_builds 888 = .ok (.iload 10, 2) := by decide +kernel
theorem dL_builds_890 : decode cL_builds 890 = .ok (.iload 11, 2) := by decide +kernel
theorem dL_builds_892 : decode cL_builds 892 = .ok (.ifCond .eq 16, 3) := by decide +kernel
theorem dL_builds_895 : decode cL_builds 895 = .ok (.aload 7, 2) := by decide +kernel
theorem dL_builds_897 : decode cL_builds 897 = .ok (.iload 10, 2) := by decide +kernel
theorem dL_builds_899 : decode cL_builds 899 = .ok (.iaload, 1) := by decide +kernel
theorem dL_builds_900 : decode cL_builds 900 = .ok (.iconst 1, 1) := by decide +kernel
theorem dL_builds_901 : decode cL_builds 901 = .ok (.iload 12, 2) := by decide +kernel
theorem dL_builds_903 : decode cL_builds 903 = .ok (.ishl, 1) := by decide +kernel
theorem dL_builds_904 : decode cL_builds 904 = .ok (.ior, 1) := by decide +kernel
theorem dL_builds_905 : decode cL_builds 905 = .ok (.goto 15, 3) := by decide +kernel
theorem dL_builds_908 : decode cL_builds 908 = .ok (.aload 7, 2) := by decide +kernel
theorem dL_builds_910 : decode cL_builds 910 = .ok (.iload 10, 2) := by decide +kernel
theorem dL_builds_912 : decode cL_builds 912 = .ok (.iaload, 1) := by decide +kernel
theorem dL_builds_913 : decode cL_builds 913 = .ok (.iconst 1, 1) := by decide +kernel
theorem dL_builds_914 : decode cL_builds 914 = .ok (.iload 12, 2) := by decide +kernel
theorem dL_builds_916 : decode cL_builds 916 = .ok (.ishl, 1) := by decide +kernel
theorem dL_builds_917 : decode cL_builds 917 = .ok (.iconst (-1), 1) := by decide +kernel
theorem dL_builds_918 : decode cL_builds 918 = .ok (.ixor, 1) := by decide +kernel
theorem dL_builds_919 : decode cL_builds 919 = .ok (.iand, 1) := by decide +kernel
theorem dL_builds_920 : decode cL_builds 920 = .ok (.iastore, 1) := by decide +kernel
theorem dL_builds_921 : decode cL_builds 921 = .ok (.aload_n 0, 1) := by decide +kernel
theorem dL_builds_922 : decode cL_builds 922 = .ok (.iload 10, 2) := by decide +kernel
theorem dL_builds_924 : decode cL_builds 924 = .ok (.iload 12, 2) := by decide +kernel
theorem dL_builds_926 : decode cL_builds 926 = .ok (.iload 11, 2) := by decide +kernel
theorem dL_builds_928 : decode cL_builds 928 = .ok (.invokestatic 121, 3) := by decide +kernel
theorem dL_builds_931 : decode cL_builds 931 = .ok (.iload 13, 2) := by decide +kernel
theorem dL_builds_933 : decode cL_builds 933 = .ok (.if_icmp .ne 7, 3) := by decide +kernel
theorem dL_builds_936 : decode cL_builds 936 = .ok (.iconst 1, 1) := by decide +kernel
theorem dL_builds_937 : decode cL_builds 937 = .ok (.goto 4, 3) := by decide +kernel
theorem dL_builds_940 : decode cL_builds 940 = .ok (.iconst 0, 1) := by decide +kernel
theorem dL_builds_941 : decode cL_builds 941 = .ok (.ireturn, 1) := by decide +kernel
theorem dL_learns_0 : decode cL_learns 0 = .ok (.iload_n 1, 1) := by decide +kernel
theorem dL_learns_1 : decode cL_learns 1 = .ok (.bipush 96, 2) := by decide +kernel
theorem dL_learns_3 : decode cL_learns 3 = .ok (.iand, 1) := by decide +kernel
theorem dL_learns_4 : decode cL_learns 4 = .ok (.ifCond .ne 120, 3) := by decide +kernel
theorem dL_learns_7 : decode cL_learns 7 = .ok (.aload 11, 2) := by decide +kernel
theorem dL_learns_9 : decode cL_learns 9 = .ok (.iconst 2, 1) := by decide +kernel
theorem dL_learns_10 : decode cL_learns 10 = .ok (.iaload, 1) := by decide +kernel
theorem dL_learns_11 : decode cL_learns 11 = .ok (.ifCond .ne 18, 3) := by decide +kernel
theorem dL_learns_14 : decode cL_learns 14 = .ok (.aload_n 0, 1) := by decide +kernel
theorem dL_learns_15 : decode cL_learns 15 = .ok (.invokestatic 123, 3) := by decide +kernel
theorem dL_learns_18 : decode cL_learns 18 = .ok (.bipush (-73), 2) := by decide +kernel
theorem dL_learns_20 : decode cL_learns 20 = .ok (.if_icmp .ne 7, 3) := by decide +kernel
theorem dL_learns_23 : decode cL_learns 23 = .ok (.iconst 1, 1) := by decide +kernel
theorem dL_learns_24 : decode cL_learns 24 = .ok (.goto 4, 3) := by decide +kernel
theorem dL_learns_27 : decode cL_learns 27 = .ok (.iconst 0, 1) := by decide +kernel
theorem dL_learns_28 : decode cL_learns 28 = .ok (.ireturn, 1) := by decide +kernel
theorem dL_learns_29 : decode cL_learns 29 = .ok (.aload 11, 2) := by decide +kernel
theorem dL_learns_31 : decode cL_learns 31 = .ok (.iconst 2, 1) := by decide +kernel
theorem dL_learns_32 : decode cL_learns 32 = .ok (.dup2, 1) := by decide +kernel
theorem dL_learns_33 : decode cL_learns 33 = .ok (.iaload, 1) := by decide +kernel
theorem dL_learns_34 : decode cL_learns 34 = .ok (.iconst 1, 1) := by decide +kernel
theorem dL_learns_35 : decode cL_learns 35 = .ok (.isub, 1) := by decide +kernel
theorem dL_learns_36 : decode cL_learns 36 = .ok (.iastore, 1) := by decide +kernel
theorem dL_learns_37 : decode cL_learns 37 = .ok (.iconst 0, 1) := by decide +kernel
theorem dL_learns_38 : decode cL_learns 38 = .ok (.istore 12, 2) := by decide +kernel
theorem dL_learns_40 : decode cL_learns 40 = .ok (.iload 12, 2) := by decide +kernel
theorem dL_learns_42 : decode cL_learns 42 = .ok (.iconst 5, 1) := by decide +kernel
theorem dL_learns_43 : decode cL_learns 43 = .ok (.if_icmp .ge 61, 3) := by decide +kernel
theorem dL_learns_46 : decode cL_learns 46 = .ok (.aload 9, 2) := by decide +kernel
theorem dL_learns_48 : decode cL_learns 48 = .ok (.aload 11, 2) := by decide +kernel
theorem dL_learns_50 : decode cL_learns 50 = .ok (.iconst 2, 1) := by decide +kernel
theorem dL_learns_51 : decode cL_learns 51 = .ok (.iaload, 1) := by decide +kernel
theorem dL_learns_52 : decode cL_learns 52 = .ok (.laload, 1) := by decide +kernel
theorem dL_learns_53 : decode cL_learns 53 = .ok (.bipush 8, 2) := by decide +kernel
theorem dL_learns_55 : decode cL_learns 55 = .ok (.iload 12, 2) := by decide +kernel
theorem dL_learns_57 : decode cL_learns 57 = .ok (.imul, 1) := by decide +kernel
theorem dL_learns_58 : decode cL_learns 58 = .ok (.lshr, 1) := by decide +kernel
theorem dL_learns_59 : decode cL_learns 59 = .ok (.ldc2_w 71, 3) := by decide +kernel
theorem dL_learns_62 : decode cL_learns 62 = .ok (.land, 1) := by decide +kernel
theorem dL_learns_63 : decode cL_learns 63 = .ok (.l2i, 1) := by decide +kernel
theorem dL_learns_64 : decode cL_learns 64 = .ok (.istore 13, 2) := by decide +kernel
theorem dL_learns_66 : decode cL_learns 66 = .ok (.aload 9, 2) := by decide +kernel
theorem dL_learns_68 : decode cL_learns 68 = .ok (.aload 11, 2) := by decide +kernel
theorem dL_learns_70 : decode cL_learns 70 = .ok (.iconst 2, 1) := by decide +kernel
theorem dL_learns_71 : decode cL_learns 71 = .ok (.iaload, 1) := by decide +kernel
theorem dL_learns_72 : decode cL_learns 72 = .ok (.laload, 1) := by decide +kernel
theorem dL_learns_73 : decode cL_learns 73 = .ok (.bipush 40, 2) := by decide +kernel
theorem dL_learns_75 : decode cL_learns 75 = .ok (.iload 12, 2) := by decide +kernel
theorem dL_learns_77 : decode cL_learns 77 = .ok (.iadd, 1) := by decide +kernel
theorem dL_learns_78 : decode cL_learns 78 = .ok (.lshr, 1) := by decide +kernel
theorem dL_learns_79 : decode cL_learns 79 = .ok (.lconst 1, 1) := by decide +kernel
theorem dL_learns_80 : decode cL_learns 80 = .ok (.land, 1) := by decide +kernel
theorem dL_learns_81 : decode cL_learns 81 = .ok (.lconst 1, 1) := by decide +kernel
theorem dL_learns_82 : decode cL_learns 82 = .ok (.lcmp, 1) := by decide +kernel
theorem dL_learns_83 : decode cL_learns 83 = .ok (.ifCond .ne 15, 3) := by decide +kernel
theorem dL_learns_86 : decode cL_learns 86 = .ok (.aload_n 3, 1) := by decide +kernel
theorem dL_learns_87 : decode cL_learns 87 = .ok (.iload 13, 2) := by decide +kernel
theorem dL_learns_89 : decode cL_learns 89 = .ok (.iconst 3, 1) := by decide +kernel
theorem dL_learns_90 : decode cL_learns 90 = .ok (.ishr, 1) := by decide +kernel
theorem dL_learns_91 : decode cL_learns 91 = .ok (.iconst 1, 1) := by decide +kernel
theorem dL_learns_92 : decode cL_learns 92 = .ok (.isub, 1) := by decide +kernel
theorem dL_learns_93 : decode cL_learns 93 = .ok (.dup2, 1) := by decide +kernel
theorem dL_learns_94 : decode cL_learns 94 = .ok (.iaload, 1) := by decide +kernel
theorem dL_learns_95 : decode cL_learns 95 = .ok (.iconst 1, 1) := by decide +kernel
theorem dL_learns_96 : decode cL_learns 96 = .ok (.isub, 1) := by decide +kernel
theorem dL_learns_97 : decode cL_learns 97 = .ok (.iastore, 1) := by decide +kernel
theorem dL_learns_98 : decode cL_learns 98 = .ok (.iinc 12 1, 3) := by decide +kernel
theorem dL_learns_101 : decode cL_learns 101 = .ok (.goto (-61), 3) := by decide +kernel
theorem dL_learns_104 : decode cL_learns 104 = .ok (.aload_n 0, 1) := by decide +kernel
theorem dL_learns_105 : decode cL_learns 105 = .ok (.invokestatic 123, 3) := by decide +kernel
theorem dL_learns_108 : decode cL_learns 108 = .ok (.aload 10, 2) := by decide +kernel
theorem dL_learns_110 : decode cL_learns 110 = .ok (.aload 11, 2) := by decide +kernel
theorem dL_learns_112 : decode cL_learns 112 = .ok (.iconst 2, 1) := by decide +kernel
theorem dL_learns_113 : decode cL_learns 113 = .ok (.iaload, 1) := by decide +kernel
theorem dL_learns_114 : decode cL_learns 114 = .ok (.iaload, 1) := by decide +kernel
theorem dL_learns_115 : decode cL_learns 115 = .ok (.if_icmp .ne 7, 3) := by decide +kernel
theorem dL_learns_118 : decode cL_learns 118 = .ok (.iconst 1, 1) := by decide +kernel
theorem dL_learns_119 : decode cL_learns 119 = .ok (.goto 4, 3) := by decide +kernel
theorem dL_learns_122 : decode cL_learns 122 = .ok (.iconst 0, 1) := by decide +kernel
theorem dL_learns_123 : decode cL_learns 123 = .ok (.ireturn, 1) := by decide +kernel
theorem dL_learns_124 : decode cL_learns 124 = .ok (.iload_n 1, 1) := by decide +kernel
theorem dL_learns_125 : decode cL_learns 125 = .ok (.bipush 7, 2) := by decide +kernel
theorem dL_learns_127 : decode cL_learns 127 = .ok (.ishr, 1) := by decide +kernel
theorem dL_learns_128 : decode cL_learns 128 = .ok (.iconst 5, 1) := by decide +kernel
theorem dL_learns_129 : decode cL_learns 129 = .ok (.invokestatic 104, 3) := by decide +kernel
theorem dL_learns_132 : decode cL_learns 132 = .ok (.istore 12, 2) := by decide +kernel
theorem dL_learns_134 : decode cL_learns 134 = .ok (.aload_n 0, 1) := by decide +kernel
theorem dL_learns_135 : decode cL_learns 135 = .ok (.iconst 1, 1) := by decide +kernel
theorem dL_learns_136 : decode cL_learns 136 = .ok (.invokestatic 126, 3) := by decide +kernel
theorem dL_learns_139 : decode cL_learns 139 = .ok (.bipush (-72), 2) := by decide +kernel
theorem dL_learns_141 : decode cL_learns 141 = .ok (.if_icmp .ne 13, 3) := by decide +kernel
theorem dL_learns_144 : decode cL_learns 144 = .ok (.aload_n 0, 1) := by decide +kernel
theorem dL_learns_145 : decode cL_learns 145 = .ok (.iconst 0, 1) := by decide +kernel
theorem dL_learns_146 : decode cL_learns 146 = .ok (.invokestatic 126, 3) := by decide +kernel
theorem dL_learns_149 : decode cL_learns 149 = .ok (.bipush (-72), 2) := by decide +kernel
theorem dL_learns_151 : decode cL_learns 151 = .ok (.if_icmp .eq 5, 3) := by decide +kernel
theorem dL_learns_154 : decode cL_learns 154 = .ok (.iconst 0, 1) := by decide +kernel
theorem dL_learns_155 : decode cL_learns 155 = .ok (.ireturn, 1) := by decide +kernel
theorem dL_learns_156 : decode cL_learns 156 = .ok (.aload 11, 2) := by decide +kernel
theorem dL_learns_158 : decode cL_learns 158 = .ok (.iconst 2, 1) := by decide +kernel
theorem dL_learns_159 : decode cL_learns 159 = .ok (.iaload, 1) := by decide +kernel
theorem dL_learns_160 : decode cL_learns 160 = .ok (.bipush 50, 2) := by decide +kernel
theorem dL_learns_162 : decode cL_learns 162 = .ok (.if_icmp .ne 20, 3) := by decide +kernel
theorem dL_learns_165 : decode cL_learns 165 = .ok (.aload_n 0, 1) := by decide +kernel
theorem dL_learns_166 : decode cL_learns 166 = .ok (.iload 12, 2) := by decide +kernel
theorem dL_learns_168 : decode cL_learns 168 = .ok (.invokestatic 126, 3) := by decide +kernel
theorem dL_learns_171 : decode cL_learns 171 = .ok (.bipush (-73), 2) := by decide +kernel
theorem dL_learns_173 : decode cL_learns 173 = .ok (.if_icmp .ne 7, 3) := by decide +kernel
theorem dL_learns_176 : decode cL_learns 176 = .ok (.iconst 1, 1) := by decide +kernel
theorem dL_learns_177 : decode cL_learns 177 = .ok (.goto 4, 3) := by decide +kernel
theorem dL_learns_180 : decode cL_learns 180 = .ok (.iconst 0, 1) := by decide +kernel
theorem dL_learns_181 : decode cL_learns 181 = .ok (.ireturn, 1) := by decide +kernel
theorem dL_learns_182 : decode cL_learns 182 = .ok (.iload 12, 2) := by decide +kernel
theorem dL_learns_184 : decode cL_learns 184 = .ok (.aload_n 2, 1) := by decide +kernel
theorem dL_learns_185 : decode cL_learns 185 = .ok (.aload_n 3, 1) := by decide +kernel
theorem dL_learns_186 : decode cL_learns 186 = .ok (.aload 4, 2) := by decide +kernel
theorem dL_learns_188 : decode cL_learns 188 = .ok (.aload 5, 2) := by decide +kernel
theorem dL_learns_190 : decode cL_learns 190 = .ok (.aload 6, 2) := by decide +kernel
theorem dL_learns_192 : decode cL_learns 192 = .ok (.aload 7, 2) := by decide +kernel
theorem dL_learns_194 : decode cL_learns 194 = .ok (.aload 8, 2) := by decide +kernel
theorem dL_learns_196 : decode cL_learns 196 = .ok (.aload 11, 2) := by decide +kernel
theorem dL_learns_198 : decode cL_learns 198 = .ok (.invokestatic 128, 3) := by decide +kernel
theorem dL_learns_201 : decode cL_learns 201 = .ok (.aload 11, 2) := by decide +kernel
theorem dL_learns_203 : decode cL_learns 203 = .ok (.iconst 3, 1) := by decide +kernel
theorem dL_learns_204 : decode cL_learns 204 = .ok (.iaload, 1) := by decide +kernel
theorem dL_learns_205 : decode cL_learns 205 = .ok (.ifCond .eq 33, 3) := by decide +kernel
theorem dL_learns_208 : decode cL_learns 208 = .ok (.aload 11, 2) := by decide +kernel
theorem dL_learns_210 : decode cL_learns 210 = .ok (.iconst 3, 1) := by decide +kernel
theorem dL_learns_211 : decode cL_learns 211 = .ok (.iaload, 1) := by decide +kernel
theorem dL_learns_212 : decode cL_learns 212 = .ok (.iconst 1, 1) := by decide +kernel
theorem dL_learns_213 : decode cL_learns 213 = .ok (.if_icmp .le 40, 3) := by decide +kernel
theorem dL_learns_216 : decode cL_learns 216 = .ok (.aload 7, 2) := by decide +kernel
theorem dL_learns_218 : decode cL_learns 218 = .ok (.iconst 1, 1) := by decide +kernel
theorem dL_learns_219 : decode cL_learns 219 = .ok (.laload, 1) := by decide +kernel
theorem dL_learns_220 : decode cL_learns 220 = .ok (.aload_n 3, 1) := by decide +kernel
theorem dL_learns_221 : decode cL_learns 221 = .ok (.invokestatic 80, 3) := by decide +kernel
theorem dL_learns_224 : decode cL_learns 224 = .ok (.aload 7, 2) := by decide +kernel
theorem dL_learns_226 : decode cL_learns 226 = .ok (.iconst 0, 1) := by decide +kernel
theorem dL_learns_227 : decode cL_learns 227 = .ok (.laload, 1) := by decide +kernel
theorem dL_learns_228 : decode cL_learns 228 = .ok (.aload_n 3, 1) := by decide +kernel
theorem dL_learns_229 : decode cL_learns 229 = .ok (.invokestatic 80, 3) := by decide +kernel
theorem dL_learns_232 : decode cL_learns 232 = .ok (.bipush 20, 2) := by decide +kernel
theorem dL_learns_234 : decode cL_learns 234 = .ok (.iadd, 1) := by decide +kernel
theorem dL_learns_235 : decode cL_learns 235 = .ok (.if_icmp .ge 18, 3) := by decide +kernel
theorem dL_learns_238 : decode cL_learns 238 = .ok (.aload_n 0, 1) := by decide +kernel
theorem dL_learns_239 : decode cL_learns 239 = .ok (.iload 12, 2) := by decide +kernel
theorem dL_learns_241 : decode cL_learns 241 = .ok (.invokestatic 126, 3) := by decide +kernel
theorem dL_learns_244 : decode cL_learns 244 = .ok (.ifCond .ne 7, 3) := by decide +kernel
theorem dL_learns_247 : decode cL_learns 247 = .ok (.iconst 1, 1) := by decide +kernel
theorem dL_learns_248 : decode cL_learns 248 = .ok (.goto 4, 3) := by decide +kernel
theorem dL_learns_251 : decode cL_learns 251 = .ok (.iconst 0, 1) := by decide +kernel
theorem dL_learns_252 : decode cL_learns 252 = .ok (.ireturn, 1) := by decide +kernel
theorem dL_learns_253 : decode cL_learns 253 = .ok (.lconst 0, 1) := by decide +kernel
theorem dL_learns_254 : decode cL_learns 254 = .ok (.lstore 13, 2) := by decide +kernel
theorem dL_learns_256 : decode cL_learns 256 = .ok (.aload 7, 2) := by decide +kernel
theorem dL_learns_258 : decode cL_learns 258 = .ok (.iconst 0, 1) := by decide +kernel
theorem dL_learns_259 : decode cL_learns 259 = .ok (.laload, 1) := by decide +kernel
theorem dL_learns_260 : decode cL_learns 260 = .ok (.invokestatic 67, 3) := by decide +kernel
theorem dL_learns_263 : decode cL_learns 263 = .ok (.iconst 1, 1) := by decide +kernel
theorem dL_learns_264 : decode cL_learns 264 = .ok (.isub, 1) := by decide +kernel
theorem dL_learns_265 : decode cL_learns 265 = .ok (.istore 15, 2) := by decide +kernel
theorem dL_learns_267 : decode cL_learns 267 = .ok (.iload 15, 2) := by decide +kernel
theorem dL_learns_269 : decode cL_learns 269 = .ok (.ifCond .lt 63, 3) := by decide +kernel
theorem dL_learns_272 : decode cL_learns 272 = .ok (.aload 7, 2) := by decide +kernel
theorem dL_learns_274 : decode cL_learns 274 = .ok (.iconst 0, 1) := by decide +kernel
theorem dL_learns_275 : decode cL_learns 275 = .ok (.laload, 1) := by decide +kernel
theorem dL_learns_276 : decode cL_learns 276 = .ok (.bipush 8, 2) := by decide +kernel
theorem dL_learns_278 : decode cL_learns 278 = .ok (.iload 15, 2) := by decide +kernel
theorem dL_learns_280 : decode cL_learns 280 = .ok (.imul, 1) := by decide +kernel
theorem dL_learns_281 : decode cL_learns 281 = .ok (.iconst 3, 1) := by decide +kernel
theorem dL_learns_282 : decode cL_learns 282 = .ok (.iadd, 1) := by decide +kernel
theorem dL_learns_283 : decode cL_learns 283 = .ok (.lshr, 1) := by decide +kernel
theorem dL_learns_284 : decode cL_learns 284 = .ok (.ldc2_w 73, 3) := by decide +kernel
theorem dL_learns_287 : decode cL_learns 287 = .ok (.land, 1) := by decide +kernel
theorem dL_learns_288 : decode cL_learns 288 = .ok (.l2i, 1) := by decide +kernel
theorem dL_learns_289 : decode cL_learns 289 = .ok (.iconst 1, 1) := by decide +kernel
theorem dL_learns_290 : decode cL_learns 290 = .ok (.isub, 1) := by decide +kernel
theorem dL_learns_291 : decode cL_learns 291 = .ok (.istore 16, 2) := by decide +kernel
theorem dL_learns_293 : decode cL_learns 293 = .ok (.aload_n 3, 1) := by decide +kernel
theorem dL_learns_294 : decode cL_learns 294 = .ok (.iload 16, 2) := by decide +kernel
theorem dL_learns_296 : decode cL_learns 296 = .ok (.iaload, 1) := by decide +kernel
theorem dL_learns_297 : decode cL_learns 297 = .ok (.sipush 9999, 3) := by decide +kernel
theorem dL_learns_300 : decode cL_learns 300 = .ok (.if_icmp .ne 6, 3) := by decide +kernel
theorem dL_learns_303 : decode cL_learns 303 = .ok (.goto 23, 3) := by decide +kernel
theorem dL_learns_306 : decode cL_learns 306 = .ok (.aload_n 3, 1) := by decide +kernel
theorem dL_learns_307 : decode cL_learns 307 = .ok (.iload 16, 2) := by decide +kernel
theorem dL_learns_309 : decode cL_learns 309 = .ok (.dup2, 1) := by decide +kernel
theorem dL_learns_310 : decode cL_learns 310 = .ok (.iaload, 1) := by decide +kernel
theorem dL_learns_311 : decode cL_learns 311 = .ok (.iconst 1, 1) := by decide +kernel
theorem dL_learns_312 : decode cL_learns 312 = .ok (.iadd, 1) := by decide +kernel
theorem dL_learns_313 : decode cL_learns 313 = .ok (.iastore, 1) := by decide +kernel
theorem dL_learns_314 : decode cL_learns 314 = .ok (.lload 13, 2) := by decide +kernel
theorem dL_learns_316 : decode cL_learns 316 = .ok (.lconst 1, 1) := by decide +kernel
theorem dL_learns_317 : decode cL_learns 317 = .ok (.bipush 40, 2) := by decide +kernel
theorem dL_learns_319 : decode cL_learns 319 = .ok (.iload 15, 2) := by decide +kernel
theorem dL_learns_321 : decode cL_learns 321 = .ok (.iadd, 1) := by decide +kernel
theorem dL_learns_322 : decode cL_learns 322 = .ok (.lshl, 1) := by decide +kernel
theorem dL_learns_323 : decode cL_learns 323 = .ok (.lor, 1) := by decide +kernel
theorem dL_learns_324 : decode cL_learns 324 = .ok (.lstore 13, 2) := by decide +kernel
theorem dL_learns_326 : decode cL_learns 326 = .ok (.iinc 15 (-1), 3) := by decide +kernel
theorem dL_learns_329 : decode cL_learns 329 = .ok (.goto (-62), 3) := by decide +kernel
theorem dL_learns_332 : decode cL_learns 332 = .ok (.aload 9, 2) := by decide +kernel
theorem dL_learns_334 : decode cL_learns 334 = .ok (.aload 11, 2) := by decide +kernel
theorem dL_learns_336 : decode cL_learns 336 = .ok (.iconst 2, 1) := by decide +kernel
theorem dL_learns_337 : decode cL_learns 337 = .ok (.iaload, 1) := by decide +kernel
theorem dL_learns_338 : decode cL_learns 338 = .ok (.aload 7, 2) := by decide +kernel
theorem dL_learns_340 : decode cL_learns 340 = .ok (.iconst 0, 1) := by decide +kernel
theorem dL_learns_341 : decode cL_learns 341 = .ok (.laload, 1) := by decide +kernel
theorem dL_learns_342 : decode cL_learns 342 = .ok (.lload 13, 2) := by decide +kernel
theorem dL_learns_344 : decode cL_learns 344 = .ok (.lor, 1) := by decide +kernel
theorem dL_learns_345 : decode cL_learns 345 = .ok (.lastore, 1) := by decide +kernel
theorem dL_learns_346 : decode cL_learns 346 = .ok (.aload 10, 2) := by decide +kernel
theorem dL_learns_348 : decode cL_learns 348 = .ok (.aload 11, 2) := by decide +kernel
theorem dL_learns_350 : decode cL_learns 350 = .ok (.iconst 2, 1) := by decide +kernel
theorem dL_learns_351 : decode cL_learns 351 = .ok (.iaload, 1) := by decide +kernel
theorem dL_learns_352 : decode cL_learns 352 = .ok (.iload 12, 2) := by decide +kernel
theorem dL_learns_354 : decode cL_learns 354 = .ok (.iastore, 1) := by decide +kernel
theorem dL_learns_355 : decode cL_learns 355 = .ok (.aload 11, 2) := by decide +kernel
theorem dL_learns_357 : decode cL_learns 357 = .ok (.iconst 2, 1) := by decide +kernel
theorem dL_learns_358 : decode cL_learns 358 = .ok (.dup2, 1) := by decide +kernel
theorem dL_learns_359 : decode cL_learns 359 = .ok (.iaload, 1) := by decide +kernel
theorem dL_learns_360 : decode cL_learns 360 = .ok (.iconst 1, 1) := by decide +kernel
theorem dL_learns_361 : decode cL_learns 361 = .ok (.iadd, 1) := by decide +kernel
theorem dL_learns_362 : decode cL_learns 362 = .ok (.iastore, 1) := by decide +kernel
theorem dL_learns_363 : decode cL_learns 363 = .ok (.aload_n 0, 1) := by decide +kernel
theorem dL_learns_364 : decode cL_learns 364 = .ok (.iload 12, 2) := by decide +kernel
theorem dL_learns_366 : decode cL_learns 366 = .ok (.invokestatic 126, 3) := by decide +kernel
theorem dL_learns_369 : decode cL_learns 369 = .ok (.iconst 1, 1) := by decide +kernel
theorem dL_learns_370 : decode cL_learns 370 = .ok (.if_icmp .ne 7, 3) := by decide +kernel
theorem dL_learns_373 : decode cL_learns 373 = .ok (.iconst 1, 1) := by decide +kernel
theorem dL_learns_374 : decode cL_learns 374 = .ok (.goto 4, 3) := by decide +kernel
theorem dL_learns_377 : decode cL_learns 377 = .ok (.iconst 0, 1) := by decide +kernel
theorem dL_learns_378 : decode cL_learns 378 = .ok (.ireturn, 1) := by decide +kernel
theorem dL_nodes_0 : decode cL_nodes 0 = .ok (.iconst 0, 1) := by decide +kernel
theorem dL_nodes_1 : decode cL_nodes 1 = .ok (.istore_n 2, 1) := by decide +kernel
theorem dL_nodes_2 : decode cL_nodes 2 = .ok (.iconst 0, 1) := by decide +kernel
theorem dL_nodes_3 : decode cL_nodes 3 = .ok (.istore_n 3, 1) := by decide +kernel
theorem dL_nodes_4 : decode cL_nodes 4 = .ok (.iload_n 3, 1) := by decide +kernel
theorem dL_nodes_5 : decode cL_nodes 5 = .ok (.iconst 5, 1) := by decide +kernel
theorem dL_nodes_6 : decode cL_nodes 6 = .ok (.aload_n 1, 1) := by decide +kernel
theorem dL_nodes_7 : decode cL_nodes 7 = .ok (.iconst 0, 1) := by decide +kernel
theorem dL_nodes_8 : decode cL_nodes 8 = .ok (.iaload, 1) := by decide +kernel
theorem dL_nodes_9 : decode cL_nodes 9 = .ok (.imul, 1) := by decide +kernel
theorem dL_nodes_10 : decode cL_nodes 10 = .ok (.if_icmp .ge 107, 3) := by decide +kernel
theorem dL_nodes_13 : decode cL_nodes 13 = .ok (.iload_n 3, 1) := by decide +kernel
theorem dL_nodes_14 : decode cL_nodes 14 = .ok (.iconst 5, 1) := by decide +kernel
theorem dL_nodes_15 : decode cL_nodes 15 = .ok (.irem, 1) := by decide +kernel
theorem dL_nodes_16 : decode cL_nodes 16 = .ok (.aload_n 0, 1) := by decide +kernel
theorem dL_nodes_17 : decode cL_nodes 17 = .ok (.iload_n 3, 1) := by decide +kernel
theorem dL_nodes_18 : decode cL_nodes 18 = .ok (.iconst 5, 1) := by decide +kernel
theorem dL_nodes_19 : decode cL_nodes 19 = .ok (.idiv, 1) := by decide +kernel
theorem dL_nodes_20 : decode cL_nodes 20 = .ok (.iaload, 1) := by decide +kernel
theorem dL_nodes_21 : decode cL_nodes 21 = .ok (.invokestatic 59, 3) := by decide +kernel
theorem dL_nodes_24 : decode cL_nodes 24 = .ok (.if_icmp .le 6, 3) := by decide +kernel
theorem dL_nodes_27 : decode cL_nodes 27 = .ok (.goto 84, 3) := by decide +kernel
theorem dL_nodes_30 : decode cL_nodes 30 = .ok (.iconst 1, 1) := by decide +kernel
theorem dL_nodes_31 : decode cL_nodes 31 = .ok (.istore 4, 2) := by decide +kernel
theorem dL_nodes_33 : decode cL_nodes 33 = .ok (.iconst 0, 1) := by decide +kernel
theorem dL_nodes_34 : decode cL_nodes 34 = .ok (.istore 5, 2) := by decide +kernel
theorem dL_nodes_36 : decode cL_nodes 36 = .ok (.iload 5, 2) := by decide +kernel
theorem dL_nodes_38 : decode cL_nodes 38 = .ok (.iload_n 3, 1) := by decide +kernel
theorem dL_nodes_39 : decode cL_nodes 39 = .ok (.if_icmp .ge 59, 3) := by decide +kernel
theorem dL_nodes_42 : decode cL_nodes 42 = .ok (.iload 4, 2) := by decide +kernel
theorem dL_nodes_44 : decode cL_nodes 44 = .ok (.ifCond .eq 54, 3) := by decide +kernel
theorem dL_nodes_47 : decode cL_nodes 47 = .ok (.iload 5, 2) := by decide +kernel
theorem dL_nodes_49 : decode cL_nodes 49 = .ok (.iconst 5, 1) := by decide +kernel
theorem dL_nodes_50 : decode cL_nodes 50 = .ok (.irem, 1) := by decide +kernel
theorem dL_nodes_51 : decode cL_nodes 51 = .ok (.aload_n 0, 1) := by decide +kernel
theorem dL_nodes_52 : decode cL_nodes 52 = .ok (.iload 5, 2) := by decide +kernel
theorem dL_nodes_54 : decode cL_nodes 54 = .ok (.iconst 5, 1) := by decide +kernel
theorem dL_nodes_55 : decode cL_nodes 55 = .ok (.idiv, 1) := by decide +kernel
theorem dL_nodes_56 : decode cL_nodes 56 = .ok (.iaload, 1) := by decide +kernel
theorem dL_nodes_57 : decode cL_nodes 57 = .ok (.invokestatic 59, 3) := by decide +kernel
theorem dL_nodes_60 : decode cL_nodes 60 = .ok (.if_icmp .gt 32, 3) := by decide +kernel
theorem dL_nodes_63 : decode cL_nodes 63 = .ok (.aload_n 0, 1) := by decide +kernel
theorem dL_nodes_64 : decode cL_nodes 64 = .ok (.aload_n 1, 1) := by decide +kernel
theorem dL_nodes_65 : decode cL_nodes 65 = .ok (.iload_n 3, 1) := by decide +kernel
theorem dL_nodes_66 : decode cL_nodes 66 = .ok (.iload 5, 2) := by decide +kernel
theorem dL_nodes_68 : decode cL_nodes 68 = .ok (.invokestatic 132, 3) := by decide +kernel
theorem dL_nodes_71 : decode cL_nodes 71 = .ok (.ifCond .eq 14, 3) := by decide +kernel
theorem dL_nodes_74 : decode cL_nodes 74 = .ok (.aload_n 0, 1) := by decide +kernel
theorem dL_nodes_75 : decode cL_nodes 75 = .ok (.aload_n 1, 1) := by decide +kernel
theorem dL_nodes_76 : decode cL_nodes 76 = .ok (.iload 5, 2) := by decide +kernel
theorem dL_nodes_78 : decode cL_nodes 78 = .ok (.iload_n 3, 1) := by decide +kernel
theorem dL_nodes_79 : decode cL_nodes 79 = .ok (.invokestatic 132, 3) := by decide +kernel
theorem dL_nodes_82 : decode cL_nodes 82 = .ok (.ifCond .ne 7, 3) := by decide +kernel
theorem dL_nodes_85 : decode cL_nodes 85 = .ok (.iconst 1, 1) := by decide +kernel
theorem dL_nodes_86 : decode cL_nodes 86 = .ok (.goto 4, 3) := by decide +kernel
theorem dL_nodes_89 : decode cL_nodes 89 = .ok (.iconst 0, 1) := by decide +kernel
theorem dL_nodes_90 : decode cL_nodes 90 = .ok (.istore 4, 2) := by decide +kernel
theorem dL_nodes_92 : decode cL_nodes 92 = .ok (.iinc 5 1, 3) := by decide +kernel
theorem dL_nodes_95 : decode cL_nodes 95 = .ok (.goto (-59), 3) := by decide +kernel
theorem dL_nodes_98 : decode cL_nodes 98 = .ok (.iload_n 2, 1) := by decide +kernel
theorem dL_nodes_99 : decode cL_nodes 99 = .ok (.iload 4, 2) := by decide +kernel
theorem dL_nodes_101 : decode cL_nodes 101 = .ok (.ifCond .eq 7, 3) := by decide +kernel
theorem dL_nodes_104 : decode cL_nodes 104 = .ok (.iconst 1, 1) := by decide +kernel
theorem dL_nodes_105 : decode cL_nodes 105 = .ok (.goto 4, 3) := by decide +kernel
theorem dL_nodes_108 : decode cL_nodes 108 = .ok (.iconst 0, 1) := by decide +kernel
theorem dL_nodes_109 : decode cL_nodes 109 = .ok (.iadd, 1) := by decide +kernel
theorem dL_nodes_110 : decode cL_nodes 110 = .ok (.istore_n 2, 1) := by decide +kernel
theorem dL_nodes_111 : decode cL_nodes 111 = .ok (.iinc 3 1, 3) := by decide +kernel
theorem dL_nodes_114 : decode cL_nodes 114 = .ok (.goto (-110), 3) := by decide +kernel
theorem dL_nodes_117 : decode cL_nodes 117 = .ok (.iload_n 2, 1) := by decide +kernel
theorem dL_nodes_118 : decode cL_nodes 118 = .ok (.ireturn, 1) := by decide +kernel
theorem dL_isIn_0 : decode cL_isIn 0 = .ok (.aload_n 0, 1) := by decide +kernel
theorem dL_isIn_1 : decode cL_isIn 1 = .ok (.iload_n 2, 1) := by decide +kernel
theorem dL_isIn_2 : decode cL_isIn 2 = .ok (.iconst 5, 1) := by decide +kernel
theorem dL_isIn_3 : decode cL_isIn 3 = .ok (.idiv, 1) := by decide +kernel
theorem dL_isIn_4 : decode cL_isIn 4 = .ok (.iaload, 1) := by decide +kernel
theorem dL_isIn_5 : decode cL_isIn 5 = .ok (.iconst 0, 1) := by decide +kernel
theorem dL_isIn_6 : decode cL_isIn 6 = .ok (.iload_n 2, 1) := by decide +kernel
theorem dL_isIn_7 : decode cL_isIn 7 = .ok (.iconst 5, 1) := by decide +kernel
theorem dL_isIn_8 : decode cL_isIn 8 = .ok (.irem, 1) := by decide +kernel
theorem dL_isIn_9 : decode cL_isIn 9 = .ok (.invokestatic 92, 3) := by decide +kernel
theorem dL_isIn_12 : decode cL_isIn 12 = .ok (.istore 4, 2) := by decide +kernel
theorem dL_isIn_14 : decode cL_isIn 14 = .ok (.aload_n 0, 1) := by decide +kernel
theorem dL_isIn_15 : decode cL_isIn 15 = .ok (.iload_n 3, 1) := by decide +kernel
theorem dL_isIn_16 : decode cL_isIn 16 = .ok (.iconst 5, 1) := by decide +kernel
theorem dL_isIn_17 : decode cL_isIn 17 = .ok (.idiv, 1) := by decide +kernel
theorem dL_isIn_18 : decode cL_isIn 18 = .ok (.iaload, 1) := by decide +kernel
theorem dL_isIn_19 : decode cL_isIn 19 = .ok (.iconst 0, 1) := by decide +kernel
theorem dL_isIn_20 : decode cL_isIn 20 = .ok (.iload_n 3, 1) := by decide +kernel
theorem dL_isIn_21 : decode cL_isIn 21 = .ok (.iconst 5, 1) := by decide +kernel
theorem dL_isIn_22 : decode cL_isIn 22 = .ok (.irem, 1) := by decide +kernel
theorem dL_isIn_23 : decode cL_isIn 23 = .ok (.invokestatic 92, 3) := by decide +kernel
theorem dL_isIn_26 : decode cL_isIn 26 = .ok (.istore 5, 2) := by decide +kernel
theorem dL_isIn_28 : decode cL_isIn 28 = .ok (.iconst 0, 1) := by decide +kernel
theorem dL_isIn_29 : decode cL_isIn 29 = .ok (.istore 6, 2) := by decide +kernel
theorem dL_isIn_31 : decode cL_isIn 31 = .ok (.iload 6, 2) := by decide +kernel
theorem dL_isIn_33 : decode cL_isIn 33 = .ok (.aload_n 1, 1) := by decide +kernel
theorem dL_isIn_34 : decode cL_isIn 34 = .ok (.iconst 0, 1) := by decide +kernel
theorem dL_isIn_35 : decode cL_isIn 35 = .ok (.iaload, 1) := by decide +kernel
theorem dL_isIn_36 : decode cL_isIn 36 = .ok (.if_icmp .ge 125, 3) := by decide +kernel
theorem dL_isIn_39 : decode cL_isIn 39 = .ok (.aload_n 0, 1) := by decide +kernel
theorem dL_isIn_40 : decode cL_isIn 40 = .ok (.iload 6, 2) := by decide +kernel
theorem dL_isIn_42 : decode cL_isIn 42 = .ok (.iaload, 1) := by decide +kernel
theorem dL_isIn_43 : decode cL_isIn 43 = .ok (.invokestatic 59, 3) := by decide +kernel
theorem dL_isIn_46 : decode cL_isIn 46 = .ok (.iload_n 2, 1) := by decide +kernel
theorem dL_isIn_47 : decode cL_isIn 47 = .ok (.iconst 5, 1) := by decide +kernel
theorem dL_isIn_48 : decode cL_isIn 48 = .ok (.irem, 1) := by decide +kernel
theorem dL_isIn_49 : decode cL_isIn 49 = .ok (.isub, 1) := by decide +kernel
theorem dL_isIn_50 : decode cL_isIn 50 = .ok (.istore 7, 2) := by decide +kernel
theorem dL_isIn_52 : decode cL_isIn 52 = .ok (.iload 7, 2) := by decide +kernel
theorem dL_isIn_54 : decode cL_isIn 54 = .ok (.ifCond .lt 101, 3) := by decide +kernel
theorem dL_isIn_57 : decode cL_isIn 57 = .ok (.aload_n 0, 1) := by decide +kernel
theorem dL_isIn_58 : decode cL_isIn 58 = .ok (.iload 6, 2) := by decide +kernel
theorem dL_isIn_60 : decode cL_isIn 60 = .ok (.iaload, 1) := by decide +kernel
theorem dL_isIn_61 : decode cL_isIn 61 = .ok (.iconst 0, 1) := by decide +kernel
theorem dL_isIn_62 : decode cL_isIn 62 = .ok (.iload_n 2, 1) := by decide +kernel
theorem dL_isIn_63 : decode cL_isIn 63 = .ok (.iconst 5, 1) := by decide +kernel
theorem dL_isIn_64 : decode cL_isIn 64 = .ok (.irem, 1) := by decide +kernel
theorem dL_isIn_65 : decode cL_isIn 65 = .ok (.invokestatic 92, 3) := by decide +kernel
theorem dL_isIn_68 : decode cL_isIn 68 = .ok (.iload 4, 2) := by decide +kernel
theorem dL_isIn_70 : decode cL_isIn 70 = .ok (.if_icmp .eq 6, 3) := by decide +kernel
theorem dL_isIn_73 : decode cL_isIn 73 = .ok (.goto 82, 3) := by decide +kernel
theorem dL_isIn_76 : decode cL_isIn 76 = .ok (.aload_n 0, 1) := by decide +kernel
theorem dL_isIn_77 : decode cL_isIn 77 = .ok (.iload 6, 2) := by decide +kernel
theorem dL_isIn_79 : decode cL_isIn 79 = .ok (.iaload, 1) := by decide +kernel
theorem dL_isIn_80 : decode cL_isIn 80 = .ok (.iload_n 2, 1) := by decide +kernel
theorem dL_isIn_81 : decode cL_isIn 81 = .ok (.iconst 5, 1) := by decide +kernel
theorem dL_isIn_82 : decode cL_isIn 82 = .ok (.irem, 1) := by decide +kernel
theorem dL_isIn_83 : decode cL_isIn 83 = .ok (.iload 7, 2) := by decide +kernel
theorem dL_isIn_85 : decode cL_isIn 85 = .ok (.invokestatic 92, 3) := by decide +kernel
theorem dL_isIn_88 : decode cL_isIn 88 = .ok (.istore 8, 2) := by decide +kernel
theorem dL_isIn_90 : decode cL_isIn 90 = .ok (.iload 5, 2) := by decide +kernel
theorem dL_isIn_92 : decode cL_isIn 92 = .ok (.iload 7, 2) := by decide +kernel
theorem dL_isIn_94 : decode cL_isIn 94 = .ok (.invokestatic 64, 3) := by decide +kernel
theorem dL_isIn_97 : decode cL_isIn 97 = .ok (.imul, 1) := by decide +kernel
theorem dL_isIn_98 : decode cL_isIn 98 = .ok (.iload 8, 2) := by decide +kernel
theorem dL_isIn_100 : decode cL_isIn 100 = .ok (.iadd, 1) := by decide +kernel
theorem dL_isIn_101 : decode cL_isIn 101 = .ok (.iload 7, 2) := by decide +kernel
theorem dL_isIn_103 : decode cL_isIn 103 = .ok (.invokestatic 64, 3) := by decide +kernel
theorem dL_isIn_106 : decode cL_isIn 106 = .ok (.isub, 1) := by decide +kernel
theorem dL_isIn_107 : decode cL_isIn 107 = .ok (.istore 9, 2) := by decide +kernel
theorem dL_isIn_109 : decode cL_isIn 109 = .ok (.iconst 0, 1) := by decide +kernel
theorem dL_isIn_110 : decode cL_isIn 110 = .ok (.istore 10, 2) := by decide +kernel
theorem dL_isIn_112 : decode cL_isIn 112 = .ok (.iconst 0, 1) := by decide +kernel
theorem dL_isIn_113 : decode cL_isIn 113 = .ok (.istore 11, 2) := by decide +kernel
theorem dL_isIn_115 : decode cL_isIn 115 = .ok (.iload 11, 2) := by decide +kernel
theorem dL_isIn_117 : decode cL_isIn 117 = .ok (.aload_n 1, 1) := by decide +kernel
theorem dL_isIn_118 : decode cL_isIn 118 = .ok (.iconst 0, 1) := by decide +kernel
theorem dL_isIn_119 : decode cL_isIn 119 = .ok (.iaload, 1) := by decide +kernel
theorem dL_isIn_120 : decode cL_isIn 120 = .ok (.if_icmp .ge 28, 3) := by decide +kernel
theorem dL_isIn_123 : decode cL_isIn 123 = .ok (.iload 10, 2) := by decide +kernel
theorem dL_isIn_125 : decode cL_isIn 125 = .ok (.aload_n 0, 1) := by decide +kernel
theorem dL_isIn_126 : decode cL_isIn 126 = .ok (.iload 11, 2) := by decide +kernel
theorem dL_isIn_128 : decode cL_isIn 128 = .ok (.iaload, 1) := by decide +kernel
theorem dL_isIn_129 : decode cL_isIn 129 = .ok (.iload 9, 2) := by decide +kernel
theorem dL_isIn_131 : decode cL_isIn 131 = .ok (.if_icmp .ne 7, 3) := by decide +kernel
theorem dL_isIn_134 : decode cL_isIn 134 = .ok (.iconst 1, 1) := by decide +kernel
theorem dL_isIn_135 : decode cL_isIn 135 = .ok (.goto 4, 3) := by decide +kernel
theorem dL_isIn_138 : decode cL_isIn 138 = .ok (.iconst 0, 1) := by decide +kernel
theorem dL_isIn_139 : decode cL_isIn 139 = .ok (.ior, 1) := by decide +kernel
theorem dL_isIn_140 : decode cL_isIn 140 = .ok (.istore 10, 2) := by decide +kernel
theorem dL_isIn_142 : decode cL_isIn 142 = .ok (.iinc 11 1, 3) := by decide +kernel
theorem dL_isIn_145 : decode cL_isIn 145 = .ok (.goto (-30), 3) := by decide +kernel
theorem dL_isIn_148 : decode cL_isIn 148 = .ok (.iload 10, 2) := by decide +kernel
theorem dL_isIn_150 : decode cL_isIn 150 = .ok (.ifCond .ne 5, 3) := by decide +kernel
theorem dL_isIn_153 : decode cL_isIn 153 = .ok (.iconst 0, 1) := by decide +kernel
theorem dL_isIn_154 : decode cL_isIn 154 = .ok (.ireturn, 1) := by decide +kernel
theorem dL_isIn_155 : decode cL_isIn 155 = .ok (.iinc 6 1, 3) := by decide +kernel
theorem dL_isIn_158 : decode cL_isIn 158 = .ok (.goto (-127), 3) := by decide +kernel
theorem dL_isIn_161 : decode cL_isIn 161 = .ok (.iconst 1, 1) := by decide +kernel
theorem dL_isIn_162 : decode cL_isIn 162 = .ok (.ireturn, 1) := by decide +kernel
theorem dL_isWord_0 : decode cL_isWord 0 = .ok (.iload_n 1, 1) := by decide +kernel
theorem dL_isWord_1 : decode cL_isWord 1 = .ok (.aload_n 3, 1) := by decide +kernel
theorem dL_isWord_2 : decode cL_isWord 2 = .ok (.aload 4, 2) := by decide +kernel
theorem dL_isWord_4 : decode cL_isWord 4 = .ok (.aload 5, 2) := by decide +kernel
theorem dL_isWord_6 : decode cL_isWord 6 = .ok (.aload 6, 2) := by decide +kernel
theorem dL_isWord_8 : decode cL_isWord 8 = .ok (.aload 7, 2) := by decide +kernel
theorem dL_isWord_10 : decode cL_isWord 10 = .ok (.aload 8, 2) := by decide +kernel
theorem dL_isWord_12 : decode cL_isWord 12 = .ok (.aload 9, 2) := by decide +kernel
theorem dL_isWord_14 : decode cL_isWord 14 = .ok (.aload 10, 2) := by decide +kernel
theorem dL_isWord_16 : decode cL_isWord 16 = .ok (.invokestatic 128, 3) := by decide +kernel
theorem dL_isWord_19 : decode cL_isWord 19 = .ok (.iconst 0, 1) := by decide +kernel
theorem dL_isWord_20 : decode cL_isWord 20 = .ok (.istore 11, 2) := by decide +kernel
theorem dL_isWord_22 : decode cL_isWord 22 = .ok (.iconst 0, 1) := by decide +kernel
theorem dL_isWord_23 : decode cL_isWord 23 = .ok (.istore 12, 2) := by decide +kernel
theorem dL_isWord_25 : decode cL_isWord 25 = .ok (.iload 12, 2) := by decide +kernel
theorem dL_isWord_27 : decode cL_isWord 27 = .ok (.aload 10, 2) := by decide +kernel
theorem dL_isWord_29 : decode cL_isWord 29 = .ok (.iconst 3, 1) := by decide +kernel
theorem dL_isWord_30 : decode cL_isWord 30 = .ok (.iaload, 1) := by decide +kernel
theorem dL_isWord_31 : decode cL_isWord 31 = .ok (.if_icmp .ge 56, 3) := by decide +kernel
theorem dL_isWord_34 : decode cL_isWord 34 = .ok (.aload 8, 2) := by decide +kernel
theorem dL_isWord_36 : decode cL_isWord 36 = .ok (.iload 12, 2) := by decide +kernel
theorem dL_isWord_38 : decode cL_isWord 38 = .ok (.laload, 1) := by decide +kernel
theorem dL_isWord_39 : decode cL_isWord 39 = .ok (.invokestatic 67, 3) := by decide +kernel
theorem dL_isWord_42 : decode cL_isWord 42 = .ok (.istore 13, 2) := by decide +kernel
theorem dL_isWord_44 : decode cL_isWord 44 = .ok (.iload 11, 2) := by decide +kernel
theorem dL_isWord_46 : decode cL_isWord 46 = .ok (.iload 13, 2) := by decide +kernel
theorem dL_isWord_48 : decode cL_isWord 48 = .ok (.iconst 3, 1) := by decide +kernel
theorem dL_isWord_49 : decode cL_isWord 49 = .ok (.if_icmp .ge 7, 3) := by decide +kernel
theorem dL_isWord_52 : decode cL_isWord 52 = .ok (.iconst 1, 1) := by decide +kernel
theorem dL_isWord_53 : decode cL_isWord 53 = .ok (.goto 25, 3) := by decide +kernel
theorem dL_isWord_56 : decode cL_isWord 56 = .ok (.iload 13, 2) := by decide +kernel
theorem dL_isWord_58 : decode cL_isWord 58 = .ok (.iconst 3, 1) := by decide +kernel
theorem dL_isWord_59 : decode cL_isWord 59 = .ok (.if_icmp .ne 7, 3) := by decide +kernel
theorem dL_isWord_62 : decode cL_isWord 62 = .ok (.iconst 2, 1) := by decide +kernel
theorem dL_isWord_63 : decode cL_isWord 63 = .ok (.goto 15, 3) := by decide +kernel
theorem dL_isWord_66 : decode cL_isWord 66 = .ok (.iload 13, 2) := by decide +kernel
theorem dL_isWord_68 : decode cL_isWord 68 = .ok (.iconst 4, 1) := by decide +kernel
theorem dL_isWord_69 : decode cL_isWord 69 = .ok (.if_icmp .ne 7, 3) := by decide +kernel
theorem dL_isWord_72 : decode cL_isWord 72 = .ok (.iconst 5, 1) := by decide +kernel
theorem dL_isWord_73 : decode cL_isWord 73 = .ok (.goto 5, 3) := by decide +kernel
theorem dL_isWord_76 : decode cL_isWord 76 = .ok (.bipush 14, 2) := by decide +kernel
theorem dL_isWord_78 : decode cL_isWord 78 = .ok (.iadd, 1) := by decide +kernel
theorem dL_isWord_79 : decode cL_isWord 79 = .ok (.istore 11, 2) := by decide +kernel
theorem dL_isWord_81 : decode cL_isWord 81 = .ok (.iinc 12 1, 3) := by decide +kernel
theorem dL_isWord_84 : decode cL_isWord 84 = .ok (.goto (-59), 3) := by decide +kernel
theorem dL_isWord_87 : decode cL_isWord 87 = .ok (.aload_n 0, 1) := by decide +kernel
theorem dL_isWord_88 : decode cL_isWord 88 = .ok (.iload_n 1, 1) := by decide +kernel
theorem dL_isWord_89 : decode cL_isWord 89 = .ok (.invokestatic 136, 3) := by decide +kernel
theorem dL_isWord_92 : decode cL_isWord 92 = .ok (.aload 10, 2) := by decide +kernel
theorem dL_isWord_94 : decode cL_isWord 94 = .ok (.iconst 3, 1) := by decide +kernel
theorem dL_isWord_95 : decode cL_isWord 95 = .ok (.iaload, 1) := by decide +kernel
theorem dL_isWord_96 : decode cL_isWord 96 = .ok (.if_icmp .ne 45, 3) := by decide +kernel
theorem dL_isWord_99 : decode cL_isWord 99 = .ok (.aload_n 0, 1) := by decide +kernel
theorem dL_isWord_100 : decode cL_isWord 100 = .ok (.iload_n 1, 1) := by decide +kernel
theorem dL_isWord_101 : decode cL_isWord 101 = .ok (.invokevirtual 138, 3) := by decide +kernel
theorem dL_isWord_104 : decode cL_isWord 104 = .ok (.iload 11, 2) := by decide +kernel
theorem dL_isWord_106 : decode cL_isWord 106 = .ok (.if_icmp .ne 35, 3) := by decide +kernel
theorem dL_isWord_109 : decode cL_isWord 109 = .ok (.aload_n 0, 1) := by decide +kernel
theorem dL_isWord_110 : decode cL_isWord 110 = .ok (.iload_n 1, 1) := by decide +kernel
theorem dL_isWord_111 : decode cL_isWord 111 = .ok (.invokevirtual 141, 3) := by decide +kernel
theorem dL_isWord_114 : decode cL_isWord 114 = .ok (.aload 10, 2) := by decide +kernel
theorem dL_isWord_116 : decode cL_isWord 116 = .ok (.iconst 3, 1) := by decide +kernel
theorem dL_isWord_117 : decode cL_isWord 117 = .ok (.iaload, 1) := by decide +kernel
theorem dL_isWord_118 : decode cL_isWord 118 = .ok (.ifCond .ne 7, 3) := by decide +kernel
theorem dL_isWord_121 : decode cL_isWord 121 = .ok (.iconst (-1), 1) := by decide +kernel
theorem dL_isWord_122 : decode cL_isWord 122 = .ok (.goto 16, 3) := by decide +kernel
theorem dL_isWord_125 : decode cL_isWord 125 = .ok (.aload 8, 2) := by decide +kernel
theorem dL_isWord_127 : decode cL_isWord 127 = .ok (.iconst 0, 1) := by decide +kernel
theorem dL_isWord_128 : decode cL_isWord 128 = .ok (.laload, 1) := by decide +kernel
theorem dL_isWord_129 : decode cL_isWord 129 = .ok (.iconst 3, 1) := by decide +kernel
theorem dL_isWord_130 : decode cL_isWord 130 = .ok (.lshr, 1) := by decide +kernel
theorem dL_isWord_131 : decode cL_isWord 131 = .ok (.ldc2_w 73, 3) := by decide +kernel
theorem dL_isWord_134 : decode cL_isWord 134 = .ok (.land, 1) := by decide +kernel
theorem dL_isWord_135 : decode cL_isWord 135 = .ok (.l2i, 1) := by decide +kernel
theorem dL_isWord_136 : decode cL_isWord 136 = .ok (.iconst 1, 1) := by decide +kernel
theorem dL_isWord_137 : decode cL_isWord 137 = .ok (.isub, 1) := by decide +kernel
theorem dL_isWord_138 : decode cL_isWord 138 = .ok (.if_icmp .eq 5, 3) := by decide +kernel
theorem dL_isWord_141 : decode cL_isWord 141 = .ok (.iconst 0, 1) := by decide +kernel
theorem dL_isWord_142 : decode cL_isWord 142 = .ok (.ireturn, 1) := by decide +kernel
theorem dL_isWord_143 : decode cL_isWord 143 = .ok (.iconst 0, 1) := by decide +kernel
theorem dL_isWord_144 : decode cL_isWord 144 = .ok (.istore 12, 2) := by decide +kernel
theorem dL_isWord_146 : decode cL_isWord 146 = .ok (.iload 12, 2) := by decide +kernel
theorem dL_isWord_148 : decode cL_isWord 148 = .ok (.iconst 2, 1) := by decide +kernel
theorem dL_isWord_149 : decode cL_isWord 149 = .ok (.if_icmp .ge 165, 3) := by decide +kernel
theorem dL_isWord_152 : decode cL_isWord 152 = .ok (.iload 12, 2) := by decide +kernel
theorem dL_isWord_154 : decode cL_isWord 154 = .ok (.ifCond .ne 7, 3) := by decide +kernel
theorem dL_isWord_157 : decode cL_isWord 157 = .ok (.iload_n 2, 1) := by decide +kernel
theorem dL_isWord_158 : decode cL_isWord 158 = .ok (.goto 4, 3) := by decide +kernel
theorem dL_isWord_161 : decode cL_isWord 161 = .ok (.iconst 0, 1) := by decide +kernel
theorem dL_isWord_162 : decode cL_isWord 162 = .ok (.istore 13, 2) := by decide +kernel
theorem dL_isWord_164 : decode cL_isWord 164 = .ok (.aload_n 0, 1) := by decide +kernel
theorem dL_isWord_165 : decode cL_isWord 165 = .ok (.iload_n 1, 1) := by decide +kernel
theorem dL_isWord_166 : decode cL_isWord 166 = .ok (.iload 13, 2) := by decide +kernel
theorem dL_isWord_168 : decode cL_isWord 168 = .ok (.invokestatic 144, 3) := by decide +kernel
theorem dL_isWord_171 : decode cL_isWord 171 = .ok (.iload 13, 2) := by decide +kernel
theorem dL_isWord_173 : decode cL_isWord 173 = .ok (.aload 10, 2) := by decide +kernel
theorem dL_isWord_175 : decode cL_isWord 175 = .ok (.iconst 3, 1) := by decide +kernel
theorem dL_isWord_176 : decode cL_isWord 176 = .ok (.iaload, 1) := by decide +kernel
theorem dL_isWord_177 : decode cL_isWord 177 = .ok (.if_icmp .ge 16, 3) := by decide +kernel
theorem dL_isWord_180 : decode cL_isWord 180 = .ok (.aload 8, 2) := by decide +kernel
theorem dL_isWord_182 : decode cL_isWord 182 = .ok (.iload 13, 2) := by decide +kernel
theorem dL_isWord_184 : decode cL_isWord 184 = .ok (.laload, 1) := by decide +kernel
theorem dL_isWord_185 : decode cL_isWord 185 = .ok (.aload 4, 2) := by decide +kernel
theorem dL_isWord_187 : decode cL_isWord 187 = .ok (.invokestatic 80, 3) := by decide +kernel
theorem dL_isWord_190 : decode cL_isWord 190 = .ok (.goto 4, 3) := by decide +kernel
theorem dL_isWord_193 : decode cL_isWord 193 = .ok (.iconst (-1), 1) := by decide +kernel
theorem dL_isWord_194 : decode cL_isWord 194 = .ok (.if_icmp .ne 34, 3) := by decide +kernel
theorem dL_isWord_197 : decode cL_isWord 197 = .ok (.aload_n 0, 1) := by decide +kernel
theorem dL_isWord_198 : decode cL_isWord 198 = .ok (.iload_n 1, 1) := by decide +kernel
theorem dL_isWord_199 : decode cL_isWord 199 = .ok (.iload 13, 2) := by decide +kernel
theorem dL_isWord_201 : decode cL_isWord 201 = .ok (.invokevirtual 146, 3) := by decide +kernel
theorem dL_isWord_204 : decode cL_isWord 204 = .ok (.iload 13, 2) := by decide +kernel
theorem dL_isWord_206 : decode cL_isWord 206 = .ok (.aload 10, 2) := by decide +kernel
theorem dL_isWord_208 : decode cL_isWord 208 = .ok (.iconst 3, 1) := by decide +kernel
theorem dL_isWord_209 : decode cL_isWord 209 = .ok (.iaload, 1) := by decide +kernel
theorem dL_isWord_210 : decode cL_isWord 210 = .ok (.if_icmp .ge 14, 3) := by decide +kernel
theorem dL_isWord_213 : decode cL_isWord 213 = .ok (.aload 8, 2) := by decide +kernel
theorem dL_isWord_215 : decode cL_isWord 215 = .ok (.iload 13, 2) := by decide +kernel
theorem dL_isWord_217 : decode cL_isWord 217 = .ok (.laload, 1) := by decide +kernel
theorem dL_isWord_218 : decode cL_isWord 218 = .ok (.invokestatic 67, 3) := by decide +kernel
theorem dL_isWord_221 : decode cL_isWord 221 = .ok (.goto 4, 3) := by decide +kernel
theorem dL_isWord_224 : decode cL_isWord 224 = .ok (.iconst (-1), 1) := by decide +kernel
theorem dL_isWord_225 : decode cL_isWord 225 = .ok (.if_icmp .eq 5, 3) := by decide +kernel
theorem dL_isWord_228 : decode cL_isWord 228 = .ok (.iconst 0, 1) := by decide +kernel
theorem dL_isWord_229 : decode cL_isWord 229 = .ok (.ireturn, 1) := by decide +kernel
theorem dL_isWord_230 : decode cL_isWord 230 = .ok (.iconst 0, 1) := by decide +kernel
theorem dL_isWord_231 : decode cL_isWord 231 = .ok (.istore 14, 2) := by decide +kernel
theorem dL_isWord_233 : decode cL_isWord 233 = .ok (.iload 14, 2) := by decide +kernel
theorem dL_isWord_235 : decode cL_isWord 235 = .ok (.iconst 5, 1) := by decide +kernel
theorem dL_isWord_236 : decode cL_isWord 236 = .ok (.if_icmp .ge 72, 3) := by decide +kernel
theorem dL_isWord_239 : decode cL_isWord 239 = .ok (.iload 13, 2) := by decide +kernel
theorem dL_isWord_241 : decode cL_isWord 241 = .ok (.aload 10, 2) := by decide +kernel
theorem dL_isWord_243 : decode cL_isWord 243 = .ok (.iconst 3, 1) := by decide +kernel
theorem dL_isWord_244 : decode cL_isWord 244 = .ok (.iaload, 1) := by decide +kernel
theorem dL_isWord_245 : decode cL_isWord 245 = .ok (.if_icmp .ge 16, 3) := by decide +kernel
theorem dL_isWord_248 : decode cL_isWord 248 = .ok (.aload 8, 2) := by decide +kernel
theorem dL_isWord_250 : decode cL_isWord 250 = .ok (.iload 13, 2) := by decide +kernel
theorem dL_isWord_252 : decode cL_isWord 252 = .ok (.laload, 1) := by decide +kernel
theorem dL_isWord_253 : decode cL_isWord 253 = .ok (.iload 14, 2) := by decide +kernel
theorem dL_isWord_255 : decode cL_isWord 255 = .ok (.invokestatic 84, 3) := by decide +kernel
theorem dL_isWord_258 : decode cL_isWord 258 = .ok (.goto 4, 3) := by decide +kernel
theorem dL_isWord_261 : decode cL_isWord 261 = .ok (.iconst (-1), 1) := by decide +kernel
theorem dL_isWord_262 : decode cL_isWord 262 = .ok (.istore 15, 2) := by decide +kernel
theorem dL_isWord_264 : decode cL_isWord 264 = .ok (.aload_n 0, 1) := by decide +kernel
theorem dL_isWord_265 : decode cL_isWord 265 = .ok (.iload_n 1, 1) := by decide +kernel
theorem dL_isWord_266 : decode cL_isWord 266 = .ok (.iload 13, 2) := by decide +kernel
theorem dL_isWord_268 : decode cL_isWord 268 = .ok (.iload 14, 2) := by decide +kernel
theorem dL_isWord_270 : decode cL_isWord 270 = .ok (.invokestatic 148, 3) := by decide +kernel
theorem dL_isWord_273 : decode cL_isWord 273 = .ok (.iload 15, 2) := by decide +kernel
theorem dL_isWord_275 : decode cL_isWord 275 = .ok (.ifCond .ge 7, 3) := by decide +kernel
theorem dL_isWord_278 : decode cL_isWord 278 = .ok (.iconst (-1), 1) := by decide +kernel
theorem dL_isWord_279 : decode cL_isWord 279 = .ok (.goto 18, 3) := by decide +kernel
theorem dL_isWord_282 : decode cL_isWord 282 = .ok (.bipush 10, 2) := by decide +kernel
theorem dL_isWord_284 : decode cL_isWord 284 = .ok (.iload 15, 2) := by decide +kernel
theorem dL_isWord_286 : decode cL_isWord 286 = .ok (.iconst 3, 1) := by decide +kernel
theorem dL_isWord_287 : decode cL_isWord 287 = .ok (.ishr, 1) := by decide +kernel
theorem dL_isWord_288 : decode cL_isWord 288 = .ok (.iconst 1, 1) := by decide +kernel
theorem dL_isWord_289 : decode cL_isWord 289 = .ok (.isub, 1) := by decide +kernel
theorem dL_isWord_290 : decode cL_isWord 290 = .ok (.imul, 1) := by decide +kernel
theorem dL_isWord_291 : decode cL_isWord 291 = .ok (.iload 15, 2) := by decide +kernel
theorem dL_isWord_293 : decode cL_isWord 293 = .ok (.bipush 7, 2) := by decide +kernel
theorem dL_isWord_295 : decode cL_isWord 295 = .ok (.iand, 1) := by decide +kernel
theorem dL_isWord_296 : decode cL_isWord 296 = .ok (.iadd, 1) := by decide +kernel
theorem dL_isWord_297 : decode cL_isWord 297 = .ok (.if_icmp .eq 5, 3) := by decide +kernel
theorem dL_isWord_300 : decode cL_isWord 300 = .ok (.iconst 0, 1) := by decide +kernel
theorem dL_isWord_301 : decode cL_isWord 301 = .ok (.ireturn, 1) := by decide +kernel
theorem dL_isWord_302 : decode cL_isWord 302 = .ok (.iinc 14 1, 3) := by decide +kernel
theorem dL_isWord_305 : decode cL_isWord 305 = .ok (.goto (-72), 3) := by decide +kernel
theorem dL_isWord_308 : decode cL_isWord 308 = .ok (.iinc 12 1, 3) := by decide +kernel
theorem dL_isWord_311 : decode cL_isWord 311 = .ok (.goto (-165), 3) := by decide +kernel
theorem dL_isWord_314 : decode cL_isWord 314 = .ok (.iconst 1, 1) := by decide +kernel
theorem dL_isWord_315 : decode cL_isWord 315 = .ok (.ireturn, 1) := by decide +kernel
theorem dL_isTold_0 : decode cL_isTold 0 = .ok (.iconst 0, 1) := by decide +kernel
theorem dL_isTold_1 : decode cL_isTold 1 = .ok (.istore 10, 2) := by decide +kernel
theorem dL_isTold_3 : decode cL_isTold 3 = .ok (.iload 10, 2) := by decide +kernel
theorem dL_isTold_5 : decode cL_isTold 5 = .ok (.aload 9, 2) := by decide +kernel
theorem dL_isTold_7 : decode cL_isTold 7 = .ok (.iconst 0, 1) := by decide +kernel
theorem dL_isTold_8 : decode cL_isTold 8 = .ok (.iaload, 1) := by decide +kernel
theorem dL_isTold_9 : decode cL_isTold 9 = .ok (.if_icmp .ge 40, 3) := by decide +kernel
theorem dL_isTold_12 : decode cL_isTold 12 = .ok (.aload_n 0, 1) := by decide +kernel
theorem dL_isTold_13 : decode cL_isTold 13 = .ok (.iload 10, 2) := by decide +kernel
theorem dL_isTold_15 : decode cL_isTold 15 = .ok (.invokestatic 150, 3) := by decide +kernel
theorem dL_isTold_18 : decode cL_isTold 18 = .ok (.aload_n 3, 1) := by decide +kernel
theorem dL_isTold_19 : decode cL_isTold 19 = .ok (.iload 10, 2) := by decide +kernel
theorem dL_isTold_21 : decode cL_isTold 21 = .ok (.iaload, 1) := by decide +kernel
theorem dL_isTold_22 : decode cL_isTold 22 = .ok (.if_icmp .ne 19, 3) := by decide +kernel
theorem dL_isTold_25 : decode cL_isTold 25 = .ok (.aload_n 0, 1) := by decide +kernel
theorem dL_isTold_26 : decode cL_isTold 26 = .ok (.iload 10, 2) := by decide +kernel
theorem dL_isTold_28 : decode cL_isTold 28 = .ok (.invokevirtual 152, 3) := by decide +kernel
theorem dL_isTold_31 : decode cL_isTold 31 = .ok (.aload_n 3, 1) := by decide +kernel
theorem dL_isTold_32 : decode cL_isTold 32 = .ok (.iload 10, 2) := by decide +kernel
theorem dL_isTold_34 : decode cL_isTold 34 = .ok (.iaload, 1) := by decide +kernel
theorem dL_isTold_35 : decode cL_isTold 35 = .ok (.invokestatic 77, 3) := by decide +kernel
theorem dL_isTold_38 : decode cL_isTold 38 = .ok (.if_icmp .eq 5, 3) := by decide +kernel
theorem dL_isTold_41 : decode cL_isTold 41 = .ok (.iconst 0, 1) := by decide +kernel
theorem dL_isTold_42 : decode cL_isTold 42 = .ok (.ireturn, 1) := by decide +kernel
theorem dL_isTold_43 : decode cL_isTold 43 = .ok (.iinc 10 1, 3) := by decide +kernel
theorem dL_isTold_46 : decode cL_isTold 46 = .ok (.goto (-43), 3) := by decide +kernel
theorem dL_isTold_49 : decode cL_isTold 49 = .ok (.iload_n 1, 1) := by decide +kernel
theorem dL_isTold_50 : decode cL_isTold 50 = .ok (.iconst 5, 1) := by decide +kernel
theorem dL_isTold_51 : decode cL_isTold 51 = .ok (.invokestatic 104, 3) := by decide +kernel
theorem dL_isTold_54 : decode cL_isTold 54 = .ok (.istore 10, 2) := by decide +kernel
theorem dL_isTold_56 : decode cL_isTold 56 = .ok (.iconst (-1), 1) := by decide +kernel
theorem dL_isTold_57 : decode cL_isTold 57 = .ok (.istore 11, 2) := by decide +kernel
theorem dL_isTold_59 : decode cL_isTold 59 = .ok (.iconst 0, 1) := by decide +kernel
theorem dL_isTold_60 : decode cL_isTold 60 = .ok (.istore 12, 2) := by decide +kernel
theorem dL_isTold_62 : decode cL_isTold 62 = .ok (.iload 12, 2) := by decide +kernel
theorem dL_isTold_64 : decode cL_isTold 64 = .ok (.aload 9, 2) := by decide +kernel
theorem dL_isTold_66 : decode cL_isTold 66 = .ok (.iconst 0, 1) := by decide +kernel
theorem dL_isTold_67 : decode cL_isTold 67 = .ok (.iaload, 1) := by decide +kernel
theorem dL_isTold_68 : decode cL_isTold 68 = .ok (.if_icmp .ge 27, 3) := by decide +kernel
theorem dL_isTold_71 : decode cL_isTold 71 = .ok (.aload_n 2, 1) := by decide +kernel
theorem dL_isTold_72 : decode cL_isTold 72 = .ok (.iload 12, 2) := by decide +kernel
theorem dL_isTold_74 : decode cL_isTold 74 = .ok (.iaload, 1) := by decide +kernel
theorem dL_isTold_75 : decode cL_isTold 75 = .ok (.iload 10, 2) := by decide +kernel
theorem dL_isTold_77 : decode cL_isTold 77 = .ok (.if_icmp .ne 8, 3) := by decide +kernel
theorem dL_isTold_80 : decode cL_isTold 80 = .ok (.iload 12, 2) := by decide +kernel
theorem dL_isTold_82 : decode cL_isTold 82 = .ok (.goto 5, 3) := by decide +kernel
theorem dL_isTold_85 : decode cL_isTold 85 = .ok (.iload 11, 2) := by decide +kernel
theorem dL_isTold_87 : decode cL_isTold 87 = .ok (.istore 11, 2) := by decide +kernel
theorem dL_isTold_89 : decode cL_isTold 89 = .ok (.iinc 12 1, 3) := by decide +kernel
theorem dL_isTold_92 : decode cL_isTold 92 = .ok (.goto (-30), 3) := by decide +kernel
theorem dL_isTold_95 : decode cL_isTold 95 = .ok (.aload_n 0, 1) := by decide +kernel
theorem dL_isTold_96 : decode cL_isTold 96 = .ok (.invokevirtual 154, 3) := by decide +kernel
theorem dL_isTold_99 : decode cL_isTold 99 = .ok (.aload 9, 2) := by decide +kernel
theorem dL_isTold_101 : decode cL_isTold 101 = .ok (.iconst 0, 1) := by decide +kernel
theorem dL_isTold_102 : decode cL_isTold 102 = .ok (.iaload, 1) := by decide +kernel
theorem dL_isTold_103 : decode cL_isTold 103 = .ok (.if_icmp .ne 194, 3) := by decide +kernel
theorem dL_isTold_106 : decode cL_isTold 106 = .ok (.aload_n 0, 1) := by decide +kernel
theorem dL_isTold_107 : decode cL_isTold 107 = .ok (.invokevirtual 156, 3) := by decide +kernel
theorem dL_isTold_110 : decode cL_isTold 110 = .ok (.aload 9, 2) := by decide +kernel
theorem dL_isTold_112 : decode cL_isTold 112 = .ok (.iconst 2, 1) := by decide +kernel
theorem dL_isTold_113 : decode cL_isTold 113 = .ok (.iaload, 1) := by decide +kernel
theorem dL_isTold_114 : decode cL_isTold 114 = .ok (.if_icmp .ne 183, 3) := by decide +kernel
theorem dL_isTold_117 : decode cL_isTold 117 = .ok (.aload_n 0, 1) := by decide +kernel
theorem dL_isTold_118 : decode cL_isTold 118 = .ok (.aload 9, 2) := by decide +kernel
theorem dL_isTold_120 : decode cL_isTold 120 = .ok (.iconst 0, 1) := by decide +kernel
theorem dL_isTold_121 : decode cL_isTold 121 = .ok (.iaload, 1) := by decide +kernel
theorem dL_isTold_122 : decode cL_isTold 122 = .ok (.invokestatic 150, 3) := by decide +kernel
theorem dL_isTold_125 : decode cL_isTold 125 = .ok (.bipush (-71), 2) := by decide +kernel
theorem dL_isTold_127 : decode cL_isTold 127 = .ok (.if_icmp .ne 170, 3) := by decide +kernel
theorem dL_isTold_130 : decode cL_isTold 130 = .ok (.aload_n 0, 1) := by decide +kernel
theorem dL_isTold_131 : decode cL_isTold 131 = .ok (.iconst (-1), 1) := by decide +kernel
theorem dL_isTold_132 : decode cL_isTold 132 = .ok (.invokestatic 150, 3) := by decide +kernel
theorem dL_isTold_135 : decode cL_isTold 135 = .ok (.bipush (-71), 2) := by decide +kernel
theorem dL_isTold_137 : decode cL_isTold 137 = .ok (.if_icmp .ne 160, 3) := by decide +kernel
theorem dL_isTold_140 : decode cL_isTold 140 = .ok (.aload_n 0, 1) := by decide +kernel
theorem dL_isTold_141 : decode cL_isTold 141 = .ok (.iload 10, 2) := by decide +kernel
theorem dL_isTold_143 : decode cL_isTold 143 = .ok (.invokestatic 159, 3) := by decide +kernel
theorem dL_isTold_146 : decode cL_isTold 146 = .ok (.iload 11, 2) := by decide +kernel
theorem dL_isTold_148 : decode cL_isTold 148 = .ok (.if_icmp .ne 149, 3) := by decide +kernel
theorem dL_isTold_151 : decode cL_isTold 151 = .ok (.aload_n 0, 1) := by decide +kernel
theorem dL_isTold_152 : decode cL_isTold 152 = .ok (.ldc 161, 2) := by decide +kernel
theorem dL_isTold_154 : decode cL_isTold 154 = .ok (.invokestatic 159, 3) := by decide +kernel
theorem dL_isTold_157 : decode cL_isTold 157 = .ok (.iconst (-1), 1) := by decide +kernel
theorem dL_isTold_158 : decode cL_isTold 158 = .ok (.if_icmp .ne 139, 3) := by decide +kernel
theorem dL_isTold_161 : decode cL_isTold 161 = .ok (.aload_n 0, 1) := by decide +kernel
theorem dL_isTold_162 : decode cL_isTold 162 = .ok (.ldc 162, 2) := by decide +kernel
theorem dL_isTold_164 : decode cL_isTold 164 = .ok (.invokestatic 159, 3) := by decide +kernel
theorem dL_isTold_167 : decode cL_isTold 167 = .ok (.bipush (-72), 2) := by decide +kernel
theorem dL_isTold_169 : decode cL_isTold 169 = .ok (.if_icmp .ne 128, 3) := by decide +kernel
theorem dL_isTold_172 : decode cL_isTold 172 = .ok (.aload_n 0, 1) := by decide +kernel
theorem dL_isTold_173 : decode cL_isTold 173 = .ok (.iconst 1, 1) := by decide +kernel
theorem dL_isTold_174 : decode cL_isTold 174 = .ok (.invokestatic 159, 3) := by decide +kernel
theorem dL_isTold_177 : decode cL_isTold 177 = .ok (.bipush (-72), 2) := by decide +kernel
theorem dL_isTold_179 : decode cL_isTold 179 = .ok (.if_icmp .ne 118, 3) := by decide +kernel
theorem dL_isTold_182 : decode cL_isTold 182 = .ok (.aload_n 0, 1) := by decide +kernel
theorem dL_isTold_183 : decode cL_isTold 183 = .ok (.iconst (-1), 1) := by decide +kernel
theorem dL_isTold_184 : decode cL_isTold 184 = .ok (.invokestatic 159, 3) := by decide +kernel
theorem dL_isTold_187 : decode cL_isTold 187 = .ok (.bipush (-72), 2) := by decide +kernel
theorem dL_isTold_189 : decode cL_isTold 189 = .ok (.if_icmp .ne 108, 3) := by decide +kernel
theorem dL_isTold_192 : decode cL_isTold 192 = .ok (.aload_n 0, 1) := by decide +kernel
theorem dL_isTold_193 : decode cL_isTold 193 = .ok (.iconst 0, 1) := by decide +kernel
theorem dL_isTold_194 : decode cL_isTold 194 = .ok (.invokestatic 136, 3) := by decide +kernel
theorem dL_isTold_197 : decode cL_isTold 197 = .ok (.bipush (-72), 2) := by decide +kernel
theorem dL_isTold_199 : decode cL_isTold 199 = .ok (.if_icmp .ne 98, 3) := by decide +kernel
theorem dL_isTold_202 : decode cL_isTold 202 = .ok (.aload_n 0, 1) := by decide +kernel
theorem dL_isTold_203 : decode cL_isTold 203 = .ok (.ldc 163, 2) := by decide +kernel
theorem dL_isTold_205 : decode cL_isTold 205 = .ok (.invokestatic 136, 3) := by decide +kernel
theorem dL_isTold_208 : decode cL_isTold 208 = .ok (.bipush (-72), 2) := by decide +kernel
theorem dL_isTold_210 : decode cL_isTold 210 = .ok (.if_icmp .ne 87, 3) := by decide +kernel
theorem dL_isTold_213 : decode cL_isTold 213 = .ok (.aload_n 0, 1) := by decide +kernel
theorem dL_isTold_214 : decode cL_isTold 214 = .ok (.iconst 1, 1) := by decide +kernel
theorem dL_isTold_215 : decode cL_isTold 215 = .ok (.iconst 0, 1) := by decide +kernel
theorem dL_isTold_216 : decode cL_isTold 216 = .ok (.invokestatic 144, 3) := by decide +kernel
theorem dL_isTold_219 : decode cL_isTold 219 = .ok (.bipush (-72), 2) := by decide +kernel
theorem dL_isTold_221 : decode cL_isTold 221 = .ok (.if_icmp .ne 76, 3) := by decide +kernel
theorem dL_isTold_224 : decode cL_isTold 224 = .ok (.aload_n 0, 1) := by decide +kernel
theorem dL_isTold_225 : decode cL_isTold 225 = .ok (.bipush 12, 2) := by decide +kernel
theorem dL_isTold_227 : decode cL_isTold 227 = .ok (.iconst (-1), 1) := by decide +kernel
theorem dL_isTold_228 : decode cL_isTold 228 = .ok (.invokestatic 144, 3) := by decide +kernel
theorem dL_isTold_231 : decode cL_isTold 231 = .ok (.bipush (-72), 2) := by decide +kernel
theorem dL_isTold_233 : decode cL_isTold 233 = .ok (.if_icmp .ne 64, 3) := by decide +kernel
theorem dL_isTold_236 : decode cL_isTold 236 = .ok (.aload_n 0, 1) := by decide +kernel
theorem dL_isTold_237 : decode cL_isTold 237 = .ok (.bipush 12, 2) := by decide +kernel
theorem dL_isTold_239 : decode cL_isTold 239 = .ok (.iconst 0, 1) := by decide +kernel
theorem dL_isTold_240 : decode cL_isTold 240 = .ok (.iconst (-1), 1) := by decide +kernel
theorem dL_isTold_241 : decode cL_isTold 241 = .ok (.invokestatic 148, 3) := by decide +kernel
theorem dL_isTold_244 : decode cL_isTold 244 = .ok (.bipush (-72), 2) := by decide +kernel
theorem dL_isTold_246 : decode cL_isTold 246 = .ok (.if_icmp .ne 51, 3) := by decide +kernel
theorem dL_isTold_249 : decode cL_isTold 249 = .ok (.aload_n 0, 1) := by decide +kernel
theorem dL_isTold_250 : decode cL_isTold 250 = .ok (.bipush 12, 2) := by decide +kernel
theorem dL_isTold_252 : decode cL_isTold 252 = .ok (.iconst (-1), 1) := by decide +kernel
theorem dL_isTold_253 : decode cL_isTold 253 = .ok (.iconst 0, 1) := by decide +kernel
theorem dL_isTold_254 : decode cL_isTold 254 = .ok (.invokestatic 148, 3) := by decide +kernel
theorem dL_isTold_257 : decode cL_isTold 257 = .ok (.bipush (-72), 2) := by decide +kernel
theorem dL_isTold_259 : decode cL_isTold 259 = .ok (.if_icmp .ne 38, 3) := by decide +kernel
theorem dL_isTold_262 : decode cL_isTold 262 = .ok (.aload_n 0, 1) := by decide +kernel
theorem dL_isTold_263 : decode cL_isTold 263 = .ok (.iload 10, 2) := by decide +kernel
theorem dL_isTold_265 : decode cL_isTold 265 = .ok (.iload_n 1, 1) := by decide +kernel
theorem dL_isTold_266 : decode cL_isTold 266 = .ok (.iconst 5, 1) := by decide +kernel
theorem dL_isTold_267 : decode cL_isTold 267 = .ok (.ishr, 1) := by decide +kernel
theorem dL_isTold_268 : decode cL_isTold 268 = .ok (.bipush 8, 2) := by decide +kernel
theorem dL_isTold_270 : decode cL_isTold 270 = .ok (.invokestatic 101, 3) := by decide +kernel
theorem dL_isTold_273 : decode cL_isTold 273 = .ok (.aload_n 2, 1) := by decide +kernel
theorem dL_isTold_274 : decode cL_isTold 274 = .ok (.aload_n 3, 1) := by decide +kernel
theorem dL_isTold_275 : decode cL_isTold 275 = .ok (.aload 4, 2) := by decide +kernel
theorem dL_isTold_277 : decode cL_isTold 277 = .ok (.aload 5, 2) := by decide +kernel
theorem dL_isTold_279 : decode cL_isTold 279 = .ok (.aload 6, 2) := by decide +kernel
theorem dL_isTold_281 : decode cL_isTold 281 = .ok (.aload 7, 2) := by decide +kernel
theorem dL_isTold_283 : decode cL_isTold 283 = .ok (.aload 8, 2) := by decide +kernel
theorem dL_isTold_285 : decode cL_isTold 285 = .ok (.aload 9, 2) := by decide +kernel
theorem dL_isTold_287 : decode cL_isTold 287 = .ok (.invokestatic 164, 3) := by decide +kernel
theorem dL_isTold_290 : decode cL_isTold 290 = .ok (.ifCond .eq 7, 3) := by decide +kernel
theorem dL_isTold_293 : decode cL_isTold 293 = .ok (.iconst 1, 1) := by decide +kernel
theorem dL_isTold_294 : decode cL_isTold 294 = .ok (.goto 4, 3) := by decide +kernel
theorem dL_isTold_297 : decode cL_isTold 297 = .ok (.iconst 0, 1) := by decide +kernel
theorem dL_isTold_298 : decode cL_isTold 298 = .ok (.ireturn, 1) := by decide +kernel
theorem dL_law_0 : decode cL_law 0 = .ok (.new 9, 3) := by decide +kernel
theorem dL_law_3 : decode cL_law 3 = .ok (.dup, 1) := by decide +kernel
theorem dL_law_4 : decode cL_law 4 = .ok (.invokespecial 168, 3) := by decide +kernel
theorem dL_law_7 : decode cL_law 7 = .ok (.astore_n 1, 1) := by decide +kernel
theorem dL_law_8 : decode cL_law 8 = .ok (.bipush 16, 2) := by decide +kernel
theorem dL_law_10 : decode cL_law 10 = .ok (.newarray .int, 2) := by decide +kernel
theorem dL_law_12 : decode cL_law 12 = .ok (.astore_n 2, 1) := by decide +kernel
theorem dL_law_13 : decode cL_law 13 = .ok (.bipush 16, 2) := by decide +kernel
theorem dL_law_15 : decode cL_law 15 = .ok (.newarray .int, 2) := by decide +kernel
theorem dL_law_17 : decode cL_law 17 = .ok (.astore_n 3, 1) := by decide +kernel
theorem dL_law_18 : decode cL_law 18 = .ok (.bipush 16, 2) := by decide +kernel
theorem dL_law_20 : decode cL_law 20 = .ok (.newarray .int, 2) := by decide +kernel
theorem dL_law_22 : decode cL_law 22 = .ok (.astore 4, 2) := by decide +kernel
theorem dL_law_24 : decode cL_law 24 = .ok (.bipush 16, 2) := by decide +kernel
theorem dL_law_26 : decode cL_law 26 = .ok (.newarray .int, 2) := by decide +kernel
theorem dL_law_28 : decode cL_law 28 = .ok (.astore 5, 2) := by decide +kernel
theorem dL_law_30 : decode cL_law 30 = .ok (.bipush 6, 2) := by decide +kernel
theorem dL_law_32 : decode cL_law 32 = .ok (.newarray .int, 2) := by decide +kernel
theorem dL_law_34 : decode cL_law 34 = .ok (.astore 6, 2) := by decide +kernel
theorem dL_law_36 : decode cL_law 36 = .ok (.bipush 64, 2) := by decide +kernel
theorem dL_law_38 : decode cL_law 38 = .ok (.newarray .long, 2) := by decide +kernel
theorem dL_law_40 : decode cL_law 40 = .ok (.astore 7, 2) := by decide +kernel
theorem dL_law_42 : decode cL_law 42 = .ok (.bipush 64, 2) := by decide +kernel
theorem dL_law_44 : decode cL_law 44 = .ok (.newarray .long, 2) := by decide +kernel
theorem dL_law_46 : decode cL_law 46 = .ok (.astore 8, 2) := by decide +kernel
theorem dL_law_48 : decode cL_law 48 = .ok (.bipush 50, 2) := by decide +kernel
theorem dL_law_50 : decode cL_law 50 = .ok (.newarray .long, 2) := by decide +kernel
theorem dL_law_52 : decode cL_law 52 = .ok (.astore 9, 2) := by decide +kernel
theorem dL_law_54 : decode cL_law 54 = .ok (.bipush 50, 2) := by decide +kernel
theorem dL_law_56 : decode cL_law 56 = .ok (.newarray .int, 2) := by decide +kernel
theorem dL_law_58 : decode cL_law 58 = .ok (.astore 10, 2) := by decide +kernel
theorem dL_law_60 : decode cL_law 60 = .ok (.iconst 5, 1) := by decide +kernel
theorem dL_law_61 : decode cL_law 61 = .ok (.newarray .int, 2) := by decide +kernel
theorem dL_law_63 : decode cL_law 63 = .ok (.astore 11, 2) := by decide +kernel
theorem dL_law_65 : decode cL_law 65 = .ok (.aload_n 1, 1) := by decide +kernel
theorem dL_law_66 : decode cL_law 66 = .ok (.iconst 2, 1) := by decide +kernel
theorem dL_law_67 : decode cL_law 67 = .ok (.aload_n 2, 1) := by decide +kernel
theorem dL_law_68 : decode cL_law 68 = .ok (.aload_n 3, 1) := by decide +kernel
theorem dL_law_69 : decode cL_law 69 = .ok (.aload 4, 2) := by decide +kernel
theorem dL_law_71 : decode cL_law 71 = .ok (.aload 5, 2) := by decide +kernel
theorem dL_law_73 : decode cL_law 73 = .ok (.aload 6, 2) := by decide +kernel
theorem dL_law_75 : decode cL_law 75 = .ok (.aload 7, 2) := by decide +kernel
theorem dL_law_77 : decode cL_law 77 = .ok (.aload 8, 2) := by decide +kernel
theorem dL_law_79 : decode cL_law 79 = .ok (.aload 11, 2) := by decide +kernel
theorem dL_law_81 : decode cL_law 81 = .ok (.invokestatic 169, 3) := by decide +kernel
theorem dL_law_84 : decode cL_law 84 = .ok (.ifCond .eq 10, 3) := by decide +kernel
theorem dL_law_87 : decode cL_law 87 = .ok (.aload_n 1, 1) := by decide +kernel
theorem dL_law_88 : decode cL_law 88 = .ok (.invokevirtual 173, 3) := by decide +kernel
theorem dL_law_91 : decode cL_law 91 = .ok (.ifCond .eq 5, 3) := by decide +kernel
theorem dL_law_94 : decode cL_law 94 = .ok (.iconst 0, 1) := by decide +kernel
theorem dL_law_95 : decode cL_law 95 = .ok (.ireturn, 1) := by decide +kernel
theorem dL_law_96 : decode cL_law 96 = .ok (.iconst 0, 1) := by decide +kernel
theorem dL_law_97 : decode cL_law 97 = .ok (.istore 12, 2) := by decide +kernel
theorem dL_law_99 : decode cL_law 99 = .ok (.iload 12, 2) := by decide +kernel
theorem dL_law_101 : decode cL_law 101 = .ok (.bipush 100, 2) := by decide +kernel
theorem dL_law_103 : decode cL_law 103 = .ok (.if_icmp .ge 188, 3) := by decide +kernel
theorem dL_law_106 : decode cL_law 106 = .ok (.aload_n 0, 1) := by decide +kernel
theorem dL_law_107 : decode cL_law 107 = .ok (.iconst 3, 1) := by decide +kernel
theorem dL_law_108 : decode cL_law 108 = .ok (.iload 12, 2) := by decide +kernel
theorem dL_law_110 : decode cL_law 110 = .ok (.imul, 1) := by decide +kernel
theorem dL_law_111 : decode cL_law 111 = .ok (.invokestatic 176, 3) := by decide +kernel
theorem dL_law_114 : decode cL_law 114 = .ok (.istore 13, 2) := by decide +kernel
theorem dL_law_116 : decode cL_law 116 = .ok (.aload_n 0, 1) := by decide +kernel
theorem dL_law_117 : decode cL_law 117 = .ok (.iconst 3, 1) := by decide +kernel
theorem dL_law_118 : decode cL_law 118 = .ok (.iload 12, 2) := by decide +kernel
theorem dL_law_120 : decode cL_law 120 = .ok (.imul, 1) := by decide +kernel
theorem dL_law_121 : decode cL_law 121 = .ok (.iconst 1, 1) := by decide +kernel
theorem dL_law_122 : decode cL_law 122 = .ok (.iadd, 1) := by decide +kernel
theorem dL_law_123 : decode cL_law 123 = .ok (.invokestatic 176, 3) := by decide +kernel
theorem dL_law_126 : decode cL_law 126 = .ok (.istore 14, 2) := by decide +kernel
theorem dL_law_128 : decode cL_law 128 = .ok (.aload_n 0, 1) := by decide +kernel
theorem dL_law_129 : decode cL_law 129 = .ok (.iconst 3, 1) := by decide +kernel
theorem dL_law_130 : decode cL_law 130 = .ok (.iload 12, 2) := by decide +kernel
theorem dL_law_132 : decode cL_law 132 = .ok (.imul, 1) := by decide +kernel
theorem dL_law_133 : decode cL_law 133 = .ok (.iconst 2, 1) := by decide +kernel
theorem dL_law_134 : decode cL_law 134 = .ok (.iadd, 1) := by decide +kernel
theorem dL_law_135 : decode cL_law 135 = .ok (.invokestatic 176, 3) := by decide +kernel
theorem dL_law_138 : decode cL_law 138 = .ok (.istore 15, 2) := by decide +kernel
theorem dL_law_140 : decode cL_law 140 = .ok (.iload 12, 2) := by decide +kernel
theorem dL_law_142 : decode cL_law 142 = .ok (.bipush 8, 2) := by decide +kernel
theorem dL_law_144 : decode cL_law 144 = .ok (.if_icmp .ge 7, 3) := by decide +kernel
theorem dL_law_147 : decode cL_law 147 = .ok (.iconst 0, 1) := by decide +kernel
theorem dL_law_148 : decode cL_law 148 = .ok (.goto 22, 3) := by decide +kernel
theorem dL_law_151 : decode cL_law 151 = .ok (.iload 12, 2) := by decide +kernel
theorem dL_law_153 : decode cL_law 153 = .ok (.bipush 10, 2) := by decide +kernel
theorem dL_law_155 : decode cL_law 155 = .ok (.if_icmp .ge 8, 3) := by decide +kernel
theorem dL_law_158 : decode cL_law 158 = .ok (.bipush 7, 2) := by decide +kernel
theorem dL_law_160 : decode cL_law 160 = .ok (.goto 10, 3) := by decide +kernel
theorem dL_law_163 : decode cL_law 163 = .ok (.iload 13, 2) := by decide +kernel
theorem dL_law_165 : decode cL_law 165 = .ok (.bipush 20, 2) := by decide +kernel
theorem dL_law_167 : decode cL_law 167 = .ok (.invokestatic 101, 3) := by decide +kernel
theorem dL_law_170 : decode cL_law 170 = .ok (.istore 16, 2) := by decide +kernel
theorem dL_law_172 : decode cL_law 172 = .ok (.iload 16, 2) := by decide +kernel
theorem dL_law_174 : decode cL_law 174 = .ok (.bipush 12, 2) := by decide +kernel
theorem dL_law_176 : decode cL_law 176 = .ok (.if_icmp .ge 29, 3) := by decide +kernel
theorem dL_law_179 : decode cL_law 179 = .ok (.aload_n 1, 1) := by decide +kernel
theorem dL_law_180 : decode cL_law 180 = .ok (.iload 16, 2) := by decide +kernel
theorem dL_law_182 : decode cL_law 182 = .ok (.iload 14, 2) := by decide +kernel
theorem dL_law_184 : decode cL_law 184 = .ok (.iload 15, 2) := by decide +kernel
theorem dL_law_186 : decode cL_law 186 = .ok (.aload_n 2, 1) := by decide +kernel
theorem dL_law_187 : decode cL_law 187 = .ok (.aload_n 3, 1) := by decide +kernel
theorem dL_law_188 : decode cL_law 188 = .ok (.aload 4, 2) := by decide +kernel
theorem dL_law_190 : decode cL_law 190 = .ok (.aload 5, 2) := by decide +kernel
theorem dL_law_192 : decode cL_law 192 = .ok (.aload 6, 2) := by decide +kernel
theorem dL_law_194 : decode cL_law 194 = .ok (.aload 11, 2) := by decide +kernel
theorem dL_law_196 : decode cL_law 196 = .ok (.invokestatic 180, 3) := by decide +kernel
theorem dL_law_199 : decode cL_law 199 = .ok (.ifCond .eq 84, 3) := by decide +kernel
theorem dL_law_202 : decode cL_law 202 = .ok (.goto 30, 3) := by decide +kernel
theorem dL_law_205 : decode cL_law 205 = .ok (.aload_n 1, 1) := by decide +kernel
theorem dL_law_206 : decode cL_law 206 = .ok (.iload 15, 2) := by decide +kernel
theorem dL_law_208 : decode cL_law 208 = .ok (.aload_n 2, 1) := by decide +kernel
theorem dL_law_209 : decode cL_law 209 = .ok (.aload_n 3, 1) := by decide +kernel
theorem dL_law_210 : decode cL_law 210 = .ok (.aload 4, 2) := by decide +kernel
theorem dL_law_212 : decode cL_law 212 = .ok (.aload 5, 2) := by decide +kernel
theorem dL_law_214 : decode cL_law 214 = .ok (.aload 6, 2) := by decide +kernel
theorem dL_law_216 : decode cL_law 216 = .ok (.aload 7, 2) := by decide +kernel
theorem dL_law_218 : decode cL_law 218 = .ok (.aload 8, 2) := by decide +kernel
theorem dL_law_220 : decode cL_law 220 = .ok (.aload 9, 2) := by decide +kernel
theorem dL_law_222 : decode cL_law 222 = .ok (.aload 10, 2) := by decide +kernel
theorem dL_law_224 : decode cL_law 224 = .ok (.aload 11, 2) := by decide +kernel
theorem dL_law_226 : decode cL_law 226 = .ok (.invokestatic 184, 3) := by decide +kernel
theorem dL_law_229 : decode cL_law 229 = .ok (.ifCond .eq 54, 3) := by decide +kernel
theorem dL_law_232 : decode cL_law 232 = .ok (.aload_n 1, 1) := by decide +kernel
theorem dL_law_233 : decode cL_law 233 = .ok (.iload 13, 2) := by decide +kernel
theorem dL_law_235 : decode cL_law 235 = .ok (.iconst 5, 1) := by decide +kernel
theorem dL_law_236 : decode cL_law 236 = .ok (.ishr, 1) := by decide +kernel
theorem dL_law_237 : decode cL_law 237 = .ok (.iload 14, 2) := by decide +kernel
theorem dL_law_239 : decode cL_law 239 = .ok (.ixor, 1) := by decide +kernel
theorem dL_law_240 : decode cL_law 240 = .ok (.aload_n 2, 1) := by decide +kernel
theorem dL_law_241 : decode cL_law 241 = .ok (.aload_n 3, 1) := by decide +kernel
theorem dL_law_242 : decode cL_law 242 = .ok (.aload 4, 2) := by decide +kernel
theorem dL_law_244 : decode cL_law 244 = .ok (.aload 5, 2) := by decide +kernel
theorem dL_law_246 : decode cL_law 246 = .ok (.aload 6, 2) := by decide +kernel
theorem dL_law_248 : decode cL_law 248 = .ok (.aload 7, 2) := by decide +kernel
theorem dL_law_250 : decode cL_law 250 = .ok (.aload 8, 2) := by decide +kernel
theorem dL_law_252 : decode cL_law 252 = .ok (.aload 11, 2) := by decide +kernel
theorem dL_law_254 : decode cL_law 254 = .ok (.invokestatic 169, 3) := by decide +kernel
theorem dL_law_257 : decode cL_law 257 = .ok (.ifCond .eq 26, 3) := by decide +kernel
theorem dL_law_260 : decode cL_law 260 = .ok (.iload 12, 2) := by decide +kernel
theorem dL_law_262 : decode cL_law 262 = .ok (.bipush 10, 2) := by decide +kernel
theorem dL_law_264 : decode cL_law 264 = .ok (.irem, 1) := by decide +kernel
theorem dL_law_265 : decode cL_law 265 = .ok (.bipush 9, 2) := by decide +kernel
theorem dL_law_267 : decode cL_law 267 = .ok (.if_icmp .ne 18, 3) := by decide +kernel
theorem dL_law_270 : decode cL_law 270 = .ok (.aload_n 1, 1) := by decide +kernel
theorem dL_law_271 : decode cL_law 271 = .ok (.invokevirtual 173, 3) := by decide +kernel
theorem dL_law_274 : decode cL_law 274 = .ok (.aload_n 2, 1) := by decide +kernel
theorem dL_law_275 : decode cL_law 275 = .ok (.aload 11, 2) := by decide +kernel
theorem dL_law_277 : decode cL_law 277 = .ok (.invokestatic 188, 3) := by decide +kernel
theorem dL_law_280 : decode cL_law 280 = .ok (.if_icmp .eq 5, 3) := by decide +kernel
theorem dL_law_283 : decode cL_law 283 = .ok (.iconst 0, 1) := by decide +kernel
theorem dL_law_284 : decode cL_law 284 = .ok (.ireturn, 1) := by decide +kernel
theorem dL_law_285 : decode cL_law 285 = .ok (.iinc 12 1, 3) := by decide +kernel
theorem dL_law_288 : decode cL_law 288 = .ok (.goto (-189), 3) := by decide +kernel
theorem dL_law_291 : decode cL_law 291 = .ok (.iconst 1, 1) := by decide +kernel
theorem dL_law_292 : decode cL_law 292 = .ok (.ireturn, 1) := by decide +kernel
