theorem dW_693 : decode code 693 = .ok (.iadd, 1) := by decide +kernel
theorem dW_694 : decode code 694 = .ok (.iaload, 1) := by decide +kernel
theorem dW_695 : decode code 695 = .ok (.invokevirtual 72, 3) := by decide +kernel
theorem dW_698 : decode code 698 = .ok (.if_icmp .eq 549, 3) := by decide +kernel
theorem dW_701 : decode code 701 = .ok (.iconst 0, 1) := by decide +kernel
theorem dW_702 : decode code 702 = .ok (.ireturn, 1) := by decide +kernel
theorem dW_703 : decode code 703 = .ok (.aload_n 1, 1) := by decide +kernel
theorem dW_704 : decode code 704 = .ok (.invokevirtual 73, 3) := by decide +kernel
theorem dW_707 : decode code 707 = .ok (.aload_n 2, 1) := by decide +kernel
theorem dW_708 : decode code 708 = .ok (.invokevirtual 76, 3) := by decide +kernel
theorem dW_711 : decode code 711 = .ok (.if_icmp .eq 536, 3) := by decide +kernel
theorem dW_714 : decode code 714 = .ok (.iconst 0, 1) := by decide +kernel
theorem dW_715 : decode code 715 = .ok (.ireturn, 1) := by decide +kernel
theorem dW_716 : decode code 716 = .ok (.aload_n 1, 1) := by decide +kernel
theorem dW_717 : decode code 717 = .ok (.aload_n 0, 1) := by decide +kernel
theorem dW_718 : decode code 718 = .ok (.iload_n 3, 1) := by decide +kernel
theorem dW_719 : decode code 719 = .ok (.iconst 1, 1) := by decide +kernel
theorem dW_720 : decode code 720 = .ok (.iadd, 1) := by decide +kernel
theorem dW_721 : decode code 721 = .ok (.iaload, 1) := by decide +kernel
theorem dW_722 : decode code 722 = .ok (.invokevirtual 77, 3) := by decide +kernel
theorem dW_725 : decode code 725 = .ok (.aload_n 2, 1) := by decide +kernel
theorem dW_726 : decode code 726 = .ok (.aload_n 0, 1) := by decide +kernel
theorem dW_727 : decode code 727 = .ok (.iload_n 3, 1) := by decide +kernel
theorem dW_728 : decode code 728 = .ok (.iconst 1, 1) := by decide +kernel
theorem dW_729 : decode code 729 = .ok (.iadd, 1) := by decide +kernel
theorem dW_730 : decode code 730 = .ok (.iaload, 1) := by decide +kernel
theorem dW_731 : decode code 731 = .ok (.invokevirtual 81, 3) := by decide +kernel
theorem dW_734 : decode code 734 = .ok (.lcmp, 1) := by decide +kernel
theorem dW_735 : decode code 735 = .ok (.ifCond .eq 512, 3) := by decide +kernel
theorem dW_738 : decode code 738 = .ok (.iconst 0, 1) := by decide +kernel
theorem dW_739 : decode code 739 = .ok (.ireturn, 1) := by decide +kernel
theorem dW_740 : decode code 740 = .ok (.aload_n 1, 1) := by decide +kernel
theorem dW_741 : decode code 741 = .ok (.aload_n 0, 1) := by decide +kernel
theorem dW_742 : decode code 742 = .ok (.iload_n 3, 1) := by decide +kernel
theorem dW_743 : decode code 743 = .ok (.iconst 1, 1) := by decide +kernel
theorem dW_744 : decode code 744 = .ok (.iadd, 1) := by decide +kernel
theorem dW_745 : decode code 745 = .ok (.iaload, 1) := by decide +kernel
theorem dW_746 : decode code 746 = .ok (.invokevirtual 82, 3) := by decide +kernel
theorem dW_749 : decode code 749 = .ok (.aload_n 2, 1) := by decide +kernel
theorem dW_750 : decode code 750 = .ok (.aload_n 0, 1) := by decide +kernel
theorem dW_751 : decode code 751 = .ok (.iload_n 3, 1) := by decide +kernel
theorem dW_752 : decode code 752 = .ok (.iconst 1, 1) := by decide +kernel
theorem dW_753 : decode code 753 = .ok (.iadd, 1) := by decide +kernel
theorem dW_754 : decode code 754 = .ok (.iaload, 1) := by decide +kernel
theorem dW_755 : decode code 755 = .ok (.invokevirtual 85, 3) := by decide +kernel
theorem dW_758 : decode code 758 = .ok (.if_icmp .eq 489, 3) := by decide +kernel
theorem dW_761 : decode code 761 = .ok (.iconst 0, 1) := by decide +kernel
theorem dW_762 : decode code 762 = .ok (.ireturn, 1) := by decide +kernel
theorem dW_763 : decode code 763 = .ok (.aload_n 1, 1) := by decide +kernel
theorem dW_764 : decode code 764 = .ok (.aload_n 0, 1) := by decide +kernel
theorem dW_765 : decode code 765 = .ok (.iload_n 3, 1) := by decide +kernel
theorem dW_766 : decode code 766 = .ok (.iconst 1, 1) := by decide +kernel
theorem dW_767 : decode code 767 = .ok (.iadd, 1) := by decide +kernel
theorem dW_768 : decode code 768 = .ok (.iaload, 1) := by decide +kernel
theorem dW_769 : decode code 769 = .ok (.invokevirtual 86, 3) := by decide +kernel
theorem dW_772 : decode code 772 = .ok (.aload_n 2, 1) := by decide +kernel
theorem dW_773 : decode code 773 = .ok (.aload_n 0, 1) := by decide +kernel
theorem dW_774 : decode code 774 = .ok (.iload_n 3, 1) := by decide +kernel
theorem dW_775 : decode code 775 = .ok (.iconst 1, 1) := by decide +kernel
theorem dW_776 : decode code 776 = .ok (.iadd, 1) := by decide +kernel
theorem dW_777 : decode code 777 = .ok (.iaload, 1) := by decide +kernel
theorem dW_778 : decode code 778 = .ok (.invokevirtual 89, 3) := by decide +kernel
theorem dW_781 : decode code 781 = .ok (.if_icmp .eq 466, 3) := by decide +kernel
theorem dW_784 : decode code 784 = .ok (.iconst 0, 1) := by decide +kernel
theorem dW_785 : decode code 785 = .ok (.ireturn, 1) := by decide +kernel
theorem dW_786 : decode code 786 = .ok (.aload_n 1, 1) := by decide +kernel
theorem dW_787 : decode code 787 = .ok (.aload_n 0, 1) := by decide +kernel
theorem dW_788 : decode code 788 = .ok (.iload_n 3, 1) := by decide +kernel
theorem dW_789 : decode code 789 = .ok (.iconst 1, 1) := by decide +kernel
theorem dW_790 : decode code 790 = .ok (.iadd, 1) := by decide +kernel
theorem dW_791 : decode code 791 = .ok (.iaload, 1) := by decide +kernel
theorem dW_792 : decode code 792 = .ok (.invokevirtual 90, 3) := by decide +kernel
theorem dW_795 : decode code 795 = .ok (.aload_n 2, 1) := by decide +kernel
theorem dW_796 : decode code 796 = .ok (.aload_n 0, 1) := by decide +kernel
theorem dW_797 : decode code 797 = .ok (.iload_n 3, 1) := by decide +kernel
theorem dW_798 : decode code 798 = .ok (.iconst 1, 1) := by decide +kernel
theorem dW_799 : decode code 799 = .ok (.iadd, 1) := by decide +kernel
theorem dW_800 : decode code 800 = .ok (.iaload, 1) := by decide +kernel
theorem dW_801 : decode code 801 = .ok (.invokevirtual 93, 3) := by decide +kernel
theorem dW_804 : decode code 804 = .ok (.lcmp, 1) := by decide +kernel
theorem dW_805 : decode code 805 = .ok (.ifCond .eq 442, 3) := by decide +kernel
theorem dW_808 : decode code 808 = .ok (.iconst 0, 1) := by decide +kernel
theorem dW_809 : decode code 809 = .ok (.ireturn, 1) := by decide +kernel
theorem dW_810 : decode code 810 = .ok (.aload_n 1, 1) := by decide +kernel
theorem dW_811 : decode code 811 = .ok (.aload_n 0, 1) := by decide +kernel
theorem dW_812 : decode code 812 = .ok (.iload_n 3, 1) := by decide +kernel
theorem dW_813 : decode code 813 = .ok (.iconst 1, 1) := by decide +kernel
theorem dW_814 : decode code 814 = .ok (.iadd, 1) := by decide +kernel
theorem dW_815 : decode code 815 = .ok (.iaload, 1) := by decide +kernel
theorem dW_816 : decode code 816 = .ok (.invokevirtual 94, 3) := by decide +kernel
theorem dW_819 : decode code 819 = .ok (.aload_n 2, 1) := by decide +kernel
theorem dW_820 : decode code 820 = .ok (.aload_n 0, 1) := by decide +kernel
theorem dW_821 : decode code 821 = .ok (.iload_n 3, 1) := by decide +kernel
theorem dW_822 : decode code 822 = .ok (.iconst 1, 1) := by decide +kernel
theorem dW_823 : decode code 823 = .ok (.iadd, 1) := by decide +kernel
theorem dW_824 : decode code 824 = .ok (.iaload, 1) := by decide +kernel
theorem dW_825 : decode code 825 = .ok (.invokevirtual 97, 3) := by decide +kernel
theorem dW_828 : decode code 828 = .ok (.lcmp, 1) := by decide +kernel
theorem dW_829 : decode code 829 = .ok (.ifCond .eq 418, 3) := by decide +kernel
theorem dW_832 : decode code 832 = .ok (.iconst 0, 1) := by decide +kernel
theorem dW_833 : decode code 833 = .ok (.ireturn, 1) := by decide +kernel
theorem dW_834 : decode code 834 = .ok (.aload_n 1, 1) := by decide +kernel
theorem dW_835 : decode code 835 = .ok (.aload_n 0, 1) := by decide +kernel
theorem dW_836 : decode code 836 = .ok (.iload_n 3, 1) := by decide +kernel
theorem dW_837 : decode code 837 = .ok (.iconst 1, 1) := by decide +kernel
theorem dW_838 : decode code 838 = .ok (.iadd, 1) := by decide +kernel
theorem dW_839 : decode code 839 = .ok (.iaload, 1) := by decide +kernel
theorem dW_840 : decode code 840 = .ok (.invokevirtual 98, 3) := by decide +kernel
theorem dW_843 : decode code 843 = .ok (.aload_n 2, 1) := by decide +kernel
theorem dW_844 : decode code 844 = .ok (.aload_n 0, 1) := by decide +kernel
theorem dW_845 : decode code 845 = .ok (.iload_n 3, 1) := by decide +kernel
theorem dW_846 : decode code 846 = .ok (.iconst 1, 1) := by decide +kernel
theorem dW_847 : decode code 847 = .ok (.iadd, 1) := by decide +kernel
theorem dW_848 : decode code 848 = .ok (.iaload, 1) := by decide +kernel
theorem dW_849 : decode code 849 = .ok (.invokevirtual 101, 3) := by decide +kernel
theorem dW_852 : decode code 852 = .ok (.if_icmp .eq 395, 3) := by decide +kernel
theorem dW_855 : decode code 855 = .ok (.iconst 0, 1) := by decide +kernel
theorem dW_856 : decode code 856 = .ok (.ireturn, 1) := by decide +kernel
theorem dW_857 : decode code 857 = .ok (.aload_n 1, 1) := by decide +kernel
theorem dW_858 : decode code 858 = .ok (.aload_n 0, 1) := by decide +kernel
theorem dW_859 : decode code 859 = .ok (.iload_n 3, 1) := by decide +kernel
theorem dW_860 : decode code 860 = .ok (.iconst 1, 1) := by decide +kernel
theorem dW_861 : decode code 861 = .ok (.iadd, 1) := by decide +kernel
theorem dW_862 : decode code 862 = .ok (.iaload, 1) := by decide +kernel
theorem dW_863 : decode code 863 = .ok (.invokevirtual 102, 3) := by decide +kernel
theorem dW_866 : decode code 866 = .ok (.aload_n 2, 1) := by decide +kernel
theorem dW_867 : decode code 867 = .ok (.aload_n 0, 1) := by decide +kernel
theorem dW_868 : decode code 868 = .ok (.iload_n 3, 1) := by decide +kernel
theorem dW_869 : decode code 869 = .ok (.iconst 1, 1) := by decide +kernel
theorem dW_870 : decode code 870 = .ok (.iadd, 1) := by decide +kernel
theorem dW_871 : decode code 871 = .ok (.iaload, 1) := by decide +kernel
theorem dW_872 : decode code 872 = .ok (.invokevirtual 105, 3) := by decide +kernel
theorem dW_875 : decode code 875 = .ok (.if_icmp .eq 372, 3) := by decide +kernel
theorem dW_878 : decode code 878 = .ok (.iconst 0, 1) := by decide +kernel
theorem dW_879 : decode code 879 = .ok (.ireturn, 1) := by decide +kernel
theorem dW_880 : decode code 880 = .ok (.aload_n 1, 1) := by decide +kernel
theorem dW_881 : decode code 881 = .ok (.aload_n 0, 1) := by decide +kernel
theorem dW_882 : decode code 882 = .ok (.iload_n 3, 1) := by decide +kernel
theorem dW_883 : decode code 883 = .ok (.iconst 1, 1) := by decide +kernel
theorem dW_884 : decode code 884 = .ok (.iadd, 1) := by decide +kernel
theorem dW_885 : decode code 885 = .ok (.iaload, 1) := by decide +kernel
theorem dW_886 : decode code 886 = .ok (.aload_n 0, 1) := by decide +kernel
theorem dW_887 : decode code 887 = .ok (.iload_n 3, 1) := by decide +kernel
theorem dW_888 : decode code 888 = .ok (.iconst 2, 1) := by decide +kernel
theorem dW_889 : decode code 889 = .ok (.iadd, 1) := by decide +kernel
