theorem dL_736 : decode code 736 = .ok (.ireturn, 1) := by decide +kernel
theorem dL_737 : decode code 737 = .ok (.aload_n 1, 1) := by decide +kernel
theorem dL_738 : decode code 738 = .ok (.aload_n 0, 1) := by decide +kernel
theorem dL_739 : decode code 739 = .ok (.iload_n 3, 1) := by decide +kernel
theorem dL_740 : decode code 740 = .ok (.iconst 1, 1) := by decide +kernel
theorem dL_741 : decode code 741 = .ok (.iadd, 1) := by decide +kernel
theorem dL_742 : decode code 742 = .ok (.iaload, 1) := by decide +kernel
theorem dL_743 : decode code 743 = .ok (.aload_n 0, 1) := by decide +kernel
theorem dL_744 : decode code 744 = .ok (.iload_n 3, 1) := by decide +kernel
theorem dL_745 : decode code 745 = .ok (.iconst 2, 1) := by decide +kernel
theorem dL_746 : decode code 746 = .ok (.iadd, 1) := by decide +kernel
theorem dL_747 : decode code 747 = .ok (.iaload, 1) := by decide +kernel
theorem dL_748 : decode code 748 = .ok (.invokevirtual 84, 3) := by decide +kernel
theorem dL_751 : decode code 751 = .ok (.aload_n 2, 1) := by decide +kernel
theorem dL_752 : decode code 752 = .ok (.aload_n 0, 1) := by decide +kernel
theorem dL_753 : decode code 753 = .ok (.iload_n 3, 1) := by decide +kernel
theorem dL_754 : decode code 754 = .ok (.iconst 1, 1) := by decide +kernel
theorem dL_755 : decode code 755 = .ok (.iadd, 1) := by decide +kernel
theorem dL_756 : decode code 756 = .ok (.iaload, 1) := by decide +kernel
theorem dL_757 : decode code 757 = .ok (.aload_n 0, 1) := by decide +kernel
theorem dL_758 : decode code 758 = .ok (.iload_n 3, 1) := by decide +kernel
theorem dL_759 : decode code 759 = .ok (.iconst 2, 1) := by decide +kernel
theorem dL_760 : decode code 760 = .ok (.iadd, 1) := by decide +kernel
theorem dL_761 : decode code 761 = .ok (.iaload, 1) := by decide +kernel
theorem dL_762 : decode code 762 = .ok (.invokevirtual 87, 3) := by decide +kernel
theorem dL_765 : decode code 765 = .ok (.if_icmp .eq 727, 3) := by decide +kernel
theorem dL_768 : decode code 768 = .ok (.iconst 0, 1) := by decide +kernel
theorem dL_769 : decode code 769 = .ok (.ireturn, 1) := by decide +kernel
theorem dL_770 : decode code 770 = .ok (.aload_n 1, 1) := by decide +kernel
theorem dL_771 : decode code 771 = .ok (.aload_n 0, 1) := by decide +kernel
theorem dL_772 : decode code 772 = .ok (.iload_n 3, 1) := by decide +kernel
theorem dL_773 : decode code 773 = .ok (.iconst 1, 1) := by decide +kernel
theorem dL_774 : decode code 774 = .ok (.iadd, 1) := by decide +kernel
theorem dL_775 : decode code 775 = .ok (.iaload, 1) := by decide +kernel
theorem dL_776 : decode code 776 = .ok (.aload_n 0, 1) := by decide +kernel
theorem dL_777 : decode code 777 = .ok (.iload_n 3, 1) := by decide +kernel
theorem dL_778 : decode code 778 = .ok (.iconst 2, 1) := by decide +kernel
theorem dL_779 : decode code 779 = .ok (.iadd, 1) := by decide +kernel
theorem dL_780 : decode code 780 = .ok (.iaload, 1) := by decide +kernel
theorem dL_781 : decode code 781 = .ok (.aload_n 0, 1) := by decide +kernel
theorem dL_782 : decode code 782 = .ok (.iload_n 3, 1) := by decide +kernel
theorem dL_783 : decode code 783 = .ok (.iconst 3, 1) := by decide +kernel
theorem dL_784 : decode code 784 = .ok (.iadd, 1) := by decide +kernel
theorem dL_785 : decode code 785 = .ok (.iaload, 1) := by decide +kernel
theorem dL_786 : decode code 786 = .ok (.invokevirtual 88, 3) := by decide +kernel
theorem dL_789 : decode code 789 = .ok (.aload_n 2, 1) := by decide +kernel
theorem dL_790 : decode code 790 = .ok (.aload_n 0, 1) := by decide +kernel
theorem dL_791 : decode code 791 = .ok (.iload_n 3, 1) := by decide +kernel
theorem dL_792 : decode code 792 = .ok (.iconst 1, 1) := by decide +kernel
theorem dL_793 : decode code 793 = .ok (.iadd, 1) := by decide +kernel
theorem dL_794 : decode code 794 = .ok (.iaload, 1) := by decide +kernel
theorem dL_795 : decode code 795 = .ok (.aload_n 0, 1) := by decide +kernel
theorem dL_796 : decode code 796 = .ok (.iload_n 3, 1) := by decide +kernel
theorem dL_797 : decode code 797 = .ok (.iconst 2, 1) := by decide +kernel
theorem dL_798 : decode code 798 = .ok (.iadd, 1) := by decide +kernel
theorem dL_799 : decode code 799 = .ok (.iaload, 1) := by decide +kernel
theorem dL_800 : decode code 800 = .ok (.aload_n 0, 1) := by decide +kernel
theorem dL_801 : decode code 801 = .ok (.iload_n 3, 1) := by decide +kernel
theorem dL_802 : decode code 802 = .ok (.iconst 3, 1) := by decide +kernel
theorem dL_803 : decode code 803 = .ok (.iadd, 1) := by decide +kernel
theorem dL_804 : decode code 804 = .ok (.iaload, 1) := by decide +kernel
theorem dL_805 : decode code 805 = .ok (.invokevirtual 91, 3) := by decide +kernel
theorem dL_808 : decode code 808 = .ok (.if_icmp .eq 684, 3) := by decide +kernel
theorem dL_811 : decode code 811 = .ok (.iconst 0, 1) := by decide +kernel
theorem dL_812 : decode code 812 = .ok (.ireturn, 1) := by decide +kernel
theorem dL_813 : decode code 813 = .ok (.aload_n 1, 1) := by decide +kernel
theorem dL_814 : decode code 814 = .ok (.aload_n 0, 1) := by decide +kernel
theorem dL_815 : decode code 815 = .ok (.iload_n 3, 1) := by decide +kernel
theorem dL_816 : decode code 816 = .ok (.iconst 1, 1) := by decide +kernel
theorem dL_817 : decode code 817 = .ok (.iadd, 1) := by decide +kernel
theorem dL_818 : decode code 818 = .ok (.iaload, 1) := by decide +kernel
theorem dL_819 : decode code 819 = .ok (.aload_n 0, 1) := by decide +kernel
theorem dL_820 : decode code 820 = .ok (.iload_n 3, 1) := by decide +kernel
theorem dL_821 : decode code 821 = .ok (.iconst 2, 1) := by decide +kernel
theorem dL_822 : decode code 822 = .ok (.iadd, 1) := by decide +kernel
theorem dL_823 : decode code 823 = .ok (.iaload, 1) := by decide +kernel
theorem dL_824 : decode code 824 = .ok (.aload_n 0, 1) := by decide +kernel
theorem dL_825 : decode code 825 = .ok (.iload_n 3, 1) := by decide +kernel
theorem dL_826 : decode code 826 = .ok (.iconst 3, 1) := by decide +kernel
theorem dL_827 : decode code 827 = .ok (.iadd, 1) := by decide +kernel
theorem dL_828 : decode code 828 = .ok (.iaload, 1) := by decide +kernel
theorem dL_829 : decode code 829 = .ok (.invokevirtual 92, 3) := by decide +kernel
theorem dL_832 : decode code 832 = .ok (.aload_n 2, 1) := by decide +kernel
theorem dL_833 : decode code 833 = .ok (.aload_n 0, 1) := by decide +kernel
theorem dL_834 : decode code 834 = .ok (.iload_n 3, 1) := by decide +kernel
theorem dL_835 : decode code 835 = .ok (.iconst 1, 1) := by decide +kernel
theorem dL_836 : decode code 836 = .ok (.iadd, 1) := by decide +kernel
theorem dL_837 : decode code 837 = .ok (.iaload, 1) := by decide +kernel
theorem dL_838 : decode code 838 = .ok (.aload_n 0, 1) := by decide +kernel
theorem dL_839 : decode code 839 = .ok (.iload_n 3, 1) := by decide +kernel
theorem dL_840 : decode code 840 = .ok (.iconst 2, 1) := by decide +kernel
theorem dL_841 : decode code 841 = .ok (.iadd, 1) := by decide +kernel
theorem dL_842 : decode code 842 = .ok (.iaload, 1) := by decide +kernel
theorem dL_843 : decode code 843 = .ok (.aload_n 0, 1) := by decide +kernel
theorem dL_844 : decode code 844 = .ok (.iload_n 3, 1) := by decide +kernel
theorem dL_845 : decode code 845 = .ok (.iconst 3, 1) := by decide +kernel
theorem dL_846 : decode code 846 = .ok (.iadd, 1) := by decide +kernel
theorem dL_847 : decode code 847 = .ok (.iaload, 1) := by decide +kernel
theorem dL_848 : decode code 848 = .ok (.invokevirtual 95, 3) := by decide +kernel
theorem dL_851 : decode code 851 = .ok (.if_icmp .eq 641, 3) := by decide +kernel
theorem dL_854 : decode code 854 = .ok (.iconst 0, 1) := by decide +kernel
theorem dL_855 : decode code 855 = .ok (.ireturn, 1) := by decide +kernel
theorem dL_856 : decode code 856 = .ok (.aload_n 1, 1) := by decide +kernel
theorem dL_857 : decode code 857 = .ok (.aload_n 0, 1) := by decide +kernel
theorem dL_858 : decode code 858 = .ok (.iload_n 3, 1) := by decide +kernel
theorem dL_859 : decode code 859 = .ok (.iconst 1, 1) := by decide +kernel
theorem dL_860 : decode code 860 = .ok (.iadd, 1) := by decide +kernel
theorem dL_861 : decode code 861 = .ok (.iaload, 1) := by decide +kernel
theorem dL_862 : decode code 862 = .ok (.aload_n 0, 1) := by decide +kernel
theorem dL_863 : decode code 863 = .ok (.iload_n 3, 1) := by decide +kernel
