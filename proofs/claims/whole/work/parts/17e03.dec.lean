theorem d_w_715 : decode code 715 = .ok (.iload 5, 2) := by decide +kernel
theorem d_w_717 : decode code 717 = .ok (.iconst 1, 1) := by decide +kernel
theorem d_w_718 : decode code 718 = .ok (.iadd, 1) := by decide +kernel
theorem d_w_719 : decode code 719 = .ok (.iaload, 1) := by decide +kernel
theorem d_w_720 : decode code 720 = .ok (.invokevirtual 133, 3) := by decide +kernel
theorem d_w_723 : decode code 723 = .ok (.istore 7, 2) := by decide +kernel
theorem d_w_725 : decode code 725 = .ok (.aload_n 2, 1) := by decide +kernel
theorem d_w_726 : decode code 726 = .ok (.invokevirtual 114, 3) := by decide +kernel
theorem d_w_729 : decode code 729 = .ok (.iload 6, 2) := by decide +kernel
theorem d_w_731 : decode code 731 = .ok (.if_icmp .eq 5, 3) := by decide +kernel
theorem d_w_734 : decode code 734 = .ok (.iconst 0, 1) := by decide +kernel
theorem d_w_735 : decode code 735 = .ok (.ireturn, 1) := by decide +kernel
theorem d_w_736 : decode code 736 = .ok (.iload 6, 2) := by decide +kernel
theorem d_w_738 : decode code 738 = .ok (.ifCond .ne 15, 3) := by decide +kernel
theorem d_w_741 : decode code 741 = .ok (.aload_n 3, 1) := by decide +kernel
theorem d_w_742 : decode code 742 = .ok (.iconst 0, 1) := by decide +kernel
theorem d_w_743 : decode code 743 = .ok (.laload, 1) := by decide +kernel
theorem d_w_744 : decode code 744 = .ok (.iload 7, 2) := by decide +kernel
theorem d_w_746 : decode code 746 = .ok (.i2l, 1) := by decide +kernel
theorem d_w_747 : decode code 747 = .ok (.lcmp, 1) := by decide +kernel
theorem d_w_748 : decode code 748 = .ok (.ifCond .eq 5, 3) := by decide +kernel
theorem d_w_751 : decode code 751 = .ok (.iconst 0, 1) := by decide +kernel
theorem d_w_752 : decode code 752 = .ok (.ireturn, 1) := by decide +kernel
theorem d_w_753 : decode code 753 = .ok (.goto 1486, 3) := by decide +kernel
theorem d_w_756 : decode code 756 = .ok (.aload_n 1, 1) := by decide +kernel
theorem d_w_757 : decode code 757 = .ok (.aload_n 0, 1) := by decide +kernel
theorem d_w_758 : decode code 758 = .ok (.iload 5, 2) := by decide +kernel
theorem d_w_760 : decode code 760 = .ok (.iconst 1, 1) := by decide +kernel
theorem d_w_761 : decode code 761 = .ok (.iadd, 1) := by decide +kernel
theorem d_w_762 : decode code 762 = .ok (.iaload, 1) := by decide +kernel
theorem d_w_763 : decode code 763 = .ok (.ifCond .eq 7, 3) := by decide +kernel
theorem d_w_766 : decode code 766 = .ok (.iconst 1, 1) := by decide +kernel
theorem d_w_767 : decode code 767 = .ok (.goto 4, 3) := by decide +kernel
theorem d_w_770 : decode code 770 = .ok (.iconst 0, 1) := by decide +kernel
theorem d_w_771 : decode code 771 = .ok (.invokevirtual 134, 3) := by decide +kernel
theorem d_w_774 : decode code 774 = .ok (.aload_n 2, 1) := by decide +kernel
theorem d_w_775 : decode code 775 = .ok (.aload_n 0, 1) := by decide +kernel
theorem d_w_776 : decode code 776 = .ok (.iload 5, 2) := by decide +kernel
theorem d_w_778 : decode code 778 = .ok (.iconst 1, 1) := by decide +kernel
theorem d_w_779 : decode code 779 = .ok (.iadd, 1) := by decide +kernel
theorem d_w_780 : decode code 780 = .ok (.iaload, 1) := by decide +kernel
theorem d_w_781 : decode code 781 = .ok (.ifCond .eq 7, 3) := by decide +kernel
theorem d_w_784 : decode code 784 = .ok (.iconst 1, 1) := by decide +kernel
theorem d_w_785 : decode code 785 = .ok (.goto 4, 3) := by decide +kernel
theorem d_w_788 : decode code 788 = .ok (.iconst 0, 1) := by decide +kernel
theorem d_w_789 : decode code 789 = .ok (.invokevirtual 138, 3) := by decide +kernel
theorem d_w_792 : decode code 792 = .ok (.if_icmp .eq 1447, 3) := by decide +kernel
theorem d_w_795 : decode code 795 = .ok (.iconst 0, 1) := by decide +kernel
theorem d_w_796 : decode code 796 = .ok (.ireturn, 1) := by decide +kernel
theorem d_w_797 : decode code 797 = .ok (.aload_n 1, 1) := by decide +kernel
theorem d_w_798 : decode code 798 = .ok (.invokevirtual 139, 3) := by decide +kernel
theorem d_w_801 : decode code 801 = .ok (.aload_n 2, 1) := by decide +kernel
theorem d_w_802 : decode code 802 = .ok (.invokevirtual 143, 3) := by decide +kernel
theorem d_w_805 : decode code 805 = .ok (.lcmp, 1) := by decide +kernel
theorem d_w_806 : decode code 806 = .ok (.ifCond .eq 1433, 3) := by decide +kernel
theorem d_w_809 : decode code 809 = .ok (.iconst 0, 1) := by decide +kernel
theorem d_w_810 : decode code 810 = .ok (.ireturn, 1) := by decide +kernel
theorem d_w_811 : decode code 811 = .ok (.aload_n 1, 1) := by decide +kernel
theorem d_w_812 : decode code 812 = .ok (.invokevirtual 144, 3) := by decide +kernel
theorem d_w_815 : decode code 815 = .ok (.aload_n 2, 1) := by decide +kernel
theorem d_w_816 : decode code 816 = .ok (.invokevirtual 147, 3) := by decide +kernel
theorem d_w_819 : decode code 819 = .ok (.lcmp, 1) := by decide +kernel
theorem d_w_820 : decode code 820 = .ok (.ifCond .eq 1419, 3) := by decide +kernel
theorem d_w_823 : decode code 823 = .ok (.iconst 0, 1) := by decide +kernel
theorem d_w_824 : decode code 824 = .ok (.ireturn, 1) := by decide +kernel
theorem d_w_825 : decode code 825 = .ok (.aload_n 1, 1) := by decide +kernel
theorem d_w_826 : decode code 826 = .ok (.aload_n 0, 1) := by decide +kernel
theorem d_w_827 : decode code 827 = .ok (.iload 5, 2) := by decide +kernel
theorem d_w_829 : decode code 829 = .ok (.iconst 1, 1) := by decide +kernel
theorem d_w_830 : decode code 830 = .ok (.iadd, 1) := by decide +kernel
theorem d_w_831 : decode code 831 = .ok (.iaload, 1) := by decide +kernel
theorem d_w_832 : decode code 832 = .ok (.ifCond .eq 7, 3) := by decide +kernel
theorem d_w_835 : decode code 835 = .ok (.iconst 1, 1) := by decide +kernel
theorem d_w_836 : decode code 836 = .ok (.goto 4, 3) := by decide +kernel
theorem d_w_839 : decode code 839 = .ok (.iconst 0, 1) := by decide +kernel
theorem d_w_840 : decode code 840 = .ok (.invokevirtual 148, 3) := by decide +kernel
theorem d_w_843 : decode code 843 = .ok (.aload_n 2, 1) := by decide +kernel
theorem d_w_844 : decode code 844 = .ok (.aload_n 0, 1) := by decide +kernel
theorem d_w_845 : decode code 845 = .ok (.iload 5, 2) := by decide +kernel
theorem d_w_847 : decode code 847 = .ok (.iconst 1, 1) := by decide +kernel
theorem d_w_848 : decode code 848 = .ok (.iadd, 1) := by decide +kernel
theorem d_w_849 : decode code 849 = .ok (.iaload, 1) := by decide +kernel
theorem d_w_850 : decode code 850 = .ok (.ifCond .eq 7, 3) := by decide +kernel
theorem d_w_853 : decode code 853 = .ok (.iconst 1, 1) := by decide +kernel
theorem d_w_854 : decode code 854 = .ok (.goto 4, 3) := by decide +kernel
theorem d_w_857 : decode code 857 = .ok (.iconst 0, 1) := by decide +kernel
theorem d_w_858 : decode code 858 = .ok (.invokevirtual 152, 3) := by decide +kernel
theorem d_w_861 : decode code 861 = .ok (.lcmp, 1) := by decide +kernel
theorem d_w_862 : decode code 862 = .ok (.ifCond .eq 1377, 3) := by decide +kernel
theorem d_w_865 : decode code 865 = .ok (.iconst 0, 1) := by decide +kernel
theorem d_w_866 : decode code 866 = .ok (.ireturn, 1) := by decide +kernel
theorem d_w_867 : decode code 867 = .ok (.aload_n 1, 1) := by decide +kernel
theorem d_w_868 : decode code 868 = .ok (.invokevirtual 153, 3) := by decide +kernel
theorem d_w_871 : decode code 871 = .ok (.aload_n 2, 1) := by decide +kernel
theorem d_w_872 : decode code 872 = .ok (.invokevirtual 156, 3) := by decide +kernel
theorem d_w_875 : decode code 875 = .ok (.if_icmp .eq 1364, 3) := by decide +kernel
theorem d_w_878 : decode code 878 = .ok (.iconst 0, 1) := by decide +kernel
theorem d_w_879 : decode code 879 = .ok (.ireturn, 1) := by decide +kernel
theorem d_w_880 : decode code 880 = .ok (.aload_n 1, 1) := by decide +kernel
theorem d_w_881 : decode code 881 = .ok (.invokevirtual 157, 3) := by decide +kernel
theorem d_w_884 : decode code 884 = .ok (.aload_n 2, 1) := by decide +kernel
theorem d_w_885 : decode code 885 = .ok (.invokevirtual 160, 3) := by decide +kernel
theorem d_w_888 : decode code 888 = .ok (.lcmp, 1) := by decide +kernel
theorem d_w_889 : decode code 889 = .ok (.ifCond .eq 1350, 3) := by decide +kernel
theorem d_w_892 : decode code 892 = .ok (.iconst 0, 1) := by decide +kernel
theorem d_w_893 : decode code 893 = .ok (.ireturn, 1) := by decide +kernel
theorem d_w_894 : decode code 894 = .ok (.aload_n 1, 1) := by decide +kernel
theorem d_w_895 : decode code 895 = .ok (.aload_n 0, 1) := by decide +kernel
theorem d_w_896 : decode code 896 = .ok (.iload 5, 2) := by decide +kernel
theorem d_w_898 : decode code 898 = .ok (.iconst 1, 1) := by decide +kernel
