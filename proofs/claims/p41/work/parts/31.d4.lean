theorem dL_law_713 : decode cL_law 713 = .ok (.imul, 1) := by decide +kernel
theorem dL_law_714 : decode cL_law 714 = .ok (.bipush 100, 2) := by decide +kernel
theorem dL_law_716 : decode cL_law 716 = .ok (.idiv, 1) := by decide +kernel
theorem dL_law_717 : decode cL_law 717 = .ok (.invokestatic 123, 3) := by decide +kernel
theorem dL_law_720 : decode cL_law 720 = .ok (.istore 14, 2) := by decide +kernel
theorem dL_law_722 : decode cL_law 722 = .ok (.iconst 0, 1) := by decide +kernel
theorem dL_law_723 : decode cL_law 723 = .ok (.istore 18, 2) := by decide +kernel
theorem dL_law_725 : decode cL_law 725 = .ok (.iload 18, 2) := by decide +kernel
theorem dL_law_727 : decode cL_law 727 = .ok (.iconst 4, 1) := by decide +kernel
theorem dL_law_728 : decode cL_law 728 = .ok (.if_icmp .ge 80, 3) := by decide +kernel
theorem dL_law_731 : decode cL_law 731 = .ok (.iload 18, 2) := by decide +kernel
theorem dL_law_733 : decode cL_law 733 = .ok (.iconst 2, 1) := by decide +kernel
theorem dL_law_734 : decode cL_law 734 = .ok (.irem, 1) := by decide +kernel
theorem dL_law_735 : decode cL_law 735 = .ok (.ifCond .ne 8, 3) := by decide +kernel
theorem dL_law_738 : decode cL_law 738 = .ok (.iload 10, 2) := by decide +kernel
theorem dL_law_740 : decode cL_law 740 = .ok (.goto 5, 3) := by decide +kernel
theorem dL_law_743 : decode cL_law 743 = .ok (.iload 11, 2) := by decide +kernel
theorem dL_law_745 : decode cL_law 745 = .ok (.i2l, 1) := by decide +kernel
theorem dL_law_746 : decode cL_law 746 = .ok (.aload_n 3, 1) := by decide +kernel
theorem dL_law_747 : decode cL_law 747 = .ok (.iload 15, 2) := by decide +kernel
theorem dL_law_749 : decode cL_law 749 = .ok (.iload 18, 2) := by decide +kernel
theorem dL_law_751 : decode cL_law 751 = .ok (.iconst 1, 1) := by decide +kernel
theorem dL_law_752 : decode cL_law 752 = .ok (.invokevirtual 126, 3) := by decide +kernel
theorem dL_law_755 : decode cL_law 755 = .ok (.i2l, 1) := by decide +kernel
theorem dL_law_756 : decode cL_law 756 = .ok (.lmul, 1) := by decide +kernel
theorem dL_law_757 : decode cL_law 757 = .ok (.lstore 19, 2) := by decide +kernel
theorem dL_law_759 : decode cL_law 759 = .ok (.aload_n 3, 1) := by decide +kernel
theorem dL_law_760 : decode cL_law 760 = .ok (.iload 15, 2) := by decide +kernel
theorem dL_law_762 : decode cL_law 762 = .ok (.iload 18, 2) := by decide +kernel
theorem dL_law_764 : decode cL_law 764 = .ok (.iconst 0, 1) := by decide +kernel
theorem dL_law_765 : decode cL_law 765 = .ok (.invokevirtual 126, 3) := by decide +kernel
theorem dL_law_768 : decode cL_law 768 = .ok (.i2l, 1) := by decide +kernel
theorem dL_law_769 : decode cL_law 769 = .ok (.iload 9, 2) := by decide +kernel
theorem dL_law_771 : decode cL_law 771 = .ok (.i2l, 1) := by decide +kernel
theorem dL_law_772 : decode cL_law 772 = .ok (.lmul, 1) := by decide +kernel
theorem dL_law_773 : decode cL_law 773 = .ok (.lstore 21, 2) := by decide +kernel
theorem dL_law_775 : decode cL_law 775 = .ok (.iload 18, 2) := by decide +kernel
theorem dL_law_777 : decode cL_law 777 = .ok (.iconst 2, 1) := by decide +kernel
theorem dL_law_778 : decode cL_law 778 = .ok (.if_icmp .ge 14, 3) := by decide +kernel
theorem dL_law_781 : decode cL_law 781 = .ok (.lload 19, 2) := by decide +kernel
theorem dL_law_783 : decode cL_law 783 = .ok (.lload 21, 2) := by decide +kernel
theorem dL_law_785 : decode cL_law 785 = .ok (.lcmp, 1) := by decide +kernel
theorem dL_law_786 : decode cL_law 786 = .ok (.ifCond .ge 16, 3) := by decide +kernel
theorem dL_law_789 : decode cL_law 789 = .ok (.goto 11, 3) := by decide +kernel
theorem dL_law_792 : decode cL_law 792 = .ok (.lload 19, 2) := by decide +kernel
theorem dL_law_794 : decode cL_law 794 = .ok (.lload 21, 2) := by decide +kernel
theorem dL_law_796 : decode cL_law 796 = .ok (.lcmp, 1) := by decide +kernel
theorem dL_law_797 : decode cL_law 797 = .ok (.ifCond .le 5, 3) := by decide +kernel
theorem dL_law_800 : decode cL_law 800 = .ok (.iconst 0, 1) := by decide +kernel
theorem dL_law_801 : decode cL_law 801 = .ok (.ireturn, 1) := by decide +kernel
theorem dL_law_802 : decode cL_law 802 = .ok (.iinc 18 1, 3) := by decide +kernel
theorem dL_law_805 : decode cL_law 805 = .ok (.goto (-80), 3) := by decide +kernel
theorem dL_law_808 : decode cL_law 808 = .ok (.iinc 15 1, 3) := by decide +kernel
theorem dL_law_811 : decode cL_law 811 = .ok (.goto (-501), 3) := by decide +kernel
theorem dL_law_814 : decode cL_law 814 = .ok (.aload_n 3, 1) := by decide +kernel
theorem dL_law_815 : decode cL_law 815 = .ok (.iload 10, 2) := by decide +kernel
theorem dL_law_817 : decode cL_law 817 = .ok (.iload 11, 2) := by decide +kernel
theorem dL_law_819 : decode cL_law 819 = .ok (.iload 9, 2) := by decide +kernel
theorem dL_law_821 : decode cL_law 821 = .ok (.invokevirtual 130, 3) := by decide +kernel
theorem dL_law_824 : decode cL_law 824 = .ok (.iload 12, 2) := by decide +kernel
theorem dL_law_826 : decode cL_law 826 = .ok (.if_icmp .ne 58, 3) := by decide +kernel
theorem dL_law_829 : decode cL_law 829 = .ok (.aload_n 3, 1) := by decide +kernel
theorem dL_law_830 : decode cL_law 830 = .ok (.iload 10, 2) := by decide +kernel
theorem dL_law_832 : decode cL_law 832 = .ok (.iload 11, 2) := by decide +kernel
theorem dL_law_834 : decode cL_law 834 = .ok (.iload 9, 2) := by decide +kernel
theorem dL_law_836 : decode cL_law 836 = .ok (.invokevirtual 134, 3) := by decide +kernel
theorem dL_law_839 : decode cL_law 839 = .ok (.iload 13, 2) := by decide +kernel
theorem dL_law_841 : decode cL_law 841 = .ok (.if_icmp .ne 43, 3) := by decide +kernel
theorem dL_law_844 : decode cL_law 844 = .ok (.aload_n 3, 1) := by decide +kernel
theorem dL_law_845 : decode cL_law 845 = .ok (.iload 10, 2) := by decide +kernel
theorem dL_law_847 : decode cL_law 847 = .ok (.iload 11, 2) := by decide +kernel
theorem dL_law_849 : decode cL_law 849 = .ok (.iload 9, 2) := by decide +kernel
theorem dL_law_851 : decode cL_law 851 = .ok (.invokevirtual 137, 3) := by decide +kernel
theorem dL_law_854 : decode cL_law 854 = .ok (.iload 14, 2) := by decide +kernel
theorem dL_law_856 : decode cL_law 856 = .ok (.if_icmp .gt 28, 3) := by decide +kernel
theorem dL_law_859 : decode cL_law 859 = .ok (.aload_n 3, 1) := by decide +kernel
theorem dL_law_860 : decode cL_law 860 = .ok (.aload_n 2, 1) := by decide +kernel
theorem dL_law_861 : decode cL_law 861 = .ok (.getfield 50, 3) := by decide +kernel
theorem dL_law_864 : decode cL_law 864 = .ok (.aload_n 2, 1) := by decide +kernel
theorem dL_law_865 : decode cL_law 865 = .ok (.getfield 50, 3) := by decide +kernel
theorem dL_law_868 : decode cL_law 868 = .ok (.invokevirtual 140, 3) := by decide +kernel
theorem dL_law_871 : decode cL_law 871 = .ok (.ifCond .ne 13, 3) := by decide +kernel
theorem dL_law_874 : decode cL_law 874 = .ok (.aload_n 3, 1) := by decide +kernel
theorem dL_law_875 : decode cL_law 875 = .ok (.invokevirtual 62, 3) := by decide +kernel
theorem dL_law_878 : decode cL_law 878 = .ok (.lload 5, 2) := by decide +kernel
theorem dL_law_880 : decode cL_law 880 = .ok (.lcmp, 1) := by decide +kernel
theorem dL_law_881 : decode cL_law 881 = .ok (.ifCond .eq 5, 3) := by decide +kernel
theorem dL_law_884 : decode cL_law 884 = .ok (.iconst 0, 1) := by decide +kernel
theorem dL_law_885 : decode cL_law 885 = .ok (.ireturn, 1) := by decide +kernel
theorem dL_law_886 : decode cL_law 886 = .ok (.aload_n 2, 1) := by decide +kernel
theorem dL_law_887 : decode cL_law 887 = .ok (.invokevirtual 143, 3) := by decide +kernel
