theorem d_L_law_726 : decode c_L_law 726 = .ok (.iaload, 1) := by decide +kernel
theorem d_L_law_727 : decode c_L_law 727 = .ok (.invokevirtual 100, 3) := by decide +kernel
theorem d_L_law_730 : decode c_L_law 730 = .ok (.if_icmp .eq 104, 3) := by decide +kernel
theorem d_L_law_733 : decode c_L_law 733 = .ok (.iconst 0, 1) := by decide +kernel
theorem d_L_law_734 : decode c_L_law 734 = .ok (.ireturn, 1) := by decide +kernel
theorem d_L_law_735 : decode c_L_law 735 = .ok (.aload_n 1, 1) := by decide +kernel
theorem d_L_law_736 : decode c_L_law 736 = .ok (.aload_n 0, 1) := by decide +kernel
theorem d_L_law_737 : decode c_L_law 737 = .ok (.iload 4, 2) := by decide +kernel
theorem d_L_law_739 : decode c_L_law 739 = .ok (.iconst 1, 1) := by decide +kernel
theorem d_L_law_740 : decode c_L_law 740 = .ok (.iadd, 1) := by decide +kernel
theorem d_L_law_741 : decode c_L_law 741 = .ok (.iaload, 1) := by decide +kernel
theorem d_L_law_742 : decode c_L_law 742 = .ok (.invokevirtual 101, 3) := by decide +kernel
theorem d_L_law_745 : decode c_L_law 745 = .ok (.aload_n 2, 1) := by decide +kernel
theorem d_L_law_746 : decode c_L_law 746 = .ok (.aload_n 0, 1) := by decide +kernel
theorem d_L_law_747 : decode c_L_law 747 = .ok (.iload 4, 2) := by decide +kernel
theorem d_L_law_749 : decode c_L_law 749 = .ok (.iconst 1, 1) := by decide +kernel
theorem d_L_law_750 : decode c_L_law 750 = .ok (.iadd, 1) := by decide +kernel
theorem d_L_law_751 : decode c_L_law 751 = .ok (.iaload, 1) := by decide +kernel
theorem d_L_law_752 : decode c_L_law 752 = .ok (.invokevirtual 104, 3) := by decide +kernel
theorem d_L_law_755 : decode c_L_law 755 = .ok (.if_icmp .eq 79, 3) := by decide +kernel
theorem d_L_law_758 : decode c_L_law 758 = .ok (.iconst 0, 1) := by decide +kernel
theorem d_L_law_759 : decode c_L_law 759 = .ok (.ireturn, 1) := by decide +kernel
theorem d_L_law_760 : decode c_L_law 760 = .ok (.aload_n 1, 1) := by decide +kernel
theorem d_L_law_761 : decode c_L_law 761 = .ok (.aload_n 0, 1) := by decide +kernel
theorem d_L_law_762 : decode c_L_law 762 = .ok (.iload 4, 2) := by decide +kernel
theorem d_L_law_764 : decode c_L_law 764 = .ok (.iconst 1, 1) := by decide +kernel
theorem d_L_law_765 : decode c_L_law 765 = .ok (.iadd, 1) := by decide +kernel
theorem d_L_law_766 : decode c_L_law 766 = .ok (.iaload, 1) := by decide +kernel
theorem d_L_law_767 : decode c_L_law 767 = .ok (.aload_n 0, 1) := by decide +kernel
theorem d_L_law_768 : decode c_L_law 768 = .ok (.iload 4, 2) := by decide +kernel
theorem d_L_law_770 : decode c_L_law 770 = .ok (.iconst 2, 1) := by decide +kernel
theorem d_L_law_771 : decode c_L_law 771 = .ok (.iadd, 1) := by decide +kernel
theorem d_L_law_772 : decode c_L_law 772 = .ok (.iaload, 1) := by decide +kernel
theorem d_L_law_773 : decode c_L_law 773 = .ok (.invokevirtual 105, 3) := by decide +kernel
theorem d_L_law_776 : decode c_L_law 776 = .ok (.aload_n 2, 1) := by decide +kernel
theorem d_L_law_777 : decode c_L_law 777 = .ok (.aload_n 0, 1) := by decide +kernel
theorem d_L_law_778 : decode c_L_law 778 = .ok (.iload 4, 2) := by decide +kernel
theorem d_L_law_780 : decode c_L_law 780 = .ok (.iconst 1, 1) := by decide +kernel
theorem d_L_law_781 : decode c_L_law 781 = .ok (.iadd, 1) := by decide +kernel
theorem d_L_law_782 : decode c_L_law 782 = .ok (.iaload, 1) := by decide +kernel
theorem d_L_law_783 : decode c_L_law 783 = .ok (.aload_n 0, 1) := by decide +kernel
theorem d_L_law_784 : decode c_L_law 784 = .ok (.iload 4, 2) := by decide +kernel
theorem d_L_law_786 : decode c_L_law 786 = .ok (.iconst 2, 1) := by decide +kernel
theorem d_L_law_787 : decode c_L_law 787 = .ok (.iadd, 1) := by decide +kernel
theorem d_L_law_788 : decode c_L_law 788 = .ok (.iaload, 1) := by decide +kernel
theorem d_L_law_789 : decode c_L_law 789 = .ok (.invokevirtual 109, 3) := by decide +kernel
theorem d_L_law_792 : decode c_L_law 792 = .ok (.if_icmp .eq 42, 3) := by decide +kernel
theorem d_L_law_795 : decode c_L_law 795 = .ok (.iconst 0, 1) := by decide +kernel
theorem d_L_law_796 : decode c_L_law 796 = .ok (.ireturn, 1) := by decide +kernel
theorem d_L_law_797 : decode c_L_law 797 = .ok (.aload_n 1, 1) := by decide +kernel
theorem d_L_law_798 : decode c_L_law 798 = .ok (.aload_n 0, 1) := by decide +kernel
theorem d_L_law_799 : decode c_L_law 799 = .ok (.iload 4, 2) := by decide +kernel
theorem d_L_law_801 : decode c_L_law 801 = .ok (.iconst 1, 1) := by decide +kernel
theorem d_L_law_802 : decode c_L_law 802 = .ok (.iadd, 1) := by decide +kernel
theorem d_L_law_803 : decode c_L_law 803 = .ok (.iaload, 1) := by decide +kernel
theorem d_L_law_804 : decode c_L_law 804 = .ok (.aload_n 0, 1) := by decide +kernel
theorem d_L_law_805 : decode c_L_law 805 = .ok (.iload 4, 2) := by decide +kernel
theorem d_L_law_807 : decode c_L_law 807 = .ok (.iconst 2, 1) := by decide +kernel
theorem d_L_law_808 : decode c_L_law 808 = .ok (.iadd, 1) := by decide +kernel
theorem d_L_law_809 : decode c_L_law 809 = .ok (.iaload, 1) := by decide +kernel
theorem d_L_law_810 : decode c_L_law 810 = .ok (.invokevirtual 110, 3) := by decide +kernel
theorem d_L_law_813 : decode c_L_law 813 = .ok (.aload_n 2, 1) := by decide +kernel
theorem d_L_law_814 : decode c_L_law 814 = .ok (.aload_n 0, 1) := by decide +kernel
theorem d_L_law_815 : decode c_L_law 815 = .ok (.iload 4, 2) := by decide +kernel
theorem d_L_law_817 : decode c_L_law 817 = .ok (.iconst 1, 1) := by decide +kernel
theorem d_L_law_818 : decode c_L_law 818 = .ok (.iadd, 1) := by decide +kernel
theorem d_L_law_819 : decode c_L_law 819 = .ok (.iaload, 1) := by decide +kernel
theorem d_L_law_820 : decode c_L_law 820 = .ok (.aload_n 0, 1) := by decide +kernel
theorem d_L_law_821 : decode c_L_law 821 = .ok (.iload 4, 2) := by decide +kernel
theorem d_L_law_823 : decode c_L_law 823 = .ok (.iconst 2, 1) := by decide +kernel
theorem d_L_law_824 : decode c_L_law 824 = .ok (.iadd, 1) := by decide +kernel
theorem d_L_law_825 : decode c_L_law 825 = .ok (.iaload, 1) := by decide +kernel
theorem d_L_law_826 : decode c_L_law 826 = .ok (.invokevirtual 113, 3) := by decide +kernel
theorem d_L_law_829 : decode c_L_law 829 = .ok (.if_icmp .eq 5, 3) := by decide +kernel
theorem d_L_law_832 : decode c_L_law 832 = .ok (.iconst 0, 1) := by decide +kernel
theorem d_L_law_833 : decode c_L_law 833 = .ok (.ireturn, 1) := by decide +kernel
theorem d_L_law_834 : decode c_L_law 834 = .ok (.iinc 4 5, 3) := by decide +kernel
theorem d_L_law_837 : decode c_L_law 837 = .ok (.goto (-814), 3) := by decide +kernel
theorem d_L_law_840 : decode c_L_law 840 = .ok (.iconst 1, 1) := by decide +kernel
theorem d_L_law_841 : decode c_L_law 841 = .ok (.ireturn, 1) := by decide +kernel
