-- the law's entry, decoded
theorem d_L_law_767 : decode code 767 = .ok (.invokevirtual 108, 3) := by decide +kernel
theorem d_L_law_770 : decode code 770 = .ok (.istore 6, 2) := by decide +kernel
theorem d_L_law_772 : decode code 772 = .ok (.aload_n 2, 1) := by decide +kernel
theorem d_L_law_773 : decode code 773 = .ok (.invokevirtual 74, 3) := by decide +kernel
theorem d_L_law_776 : decode code 776 = .ok (.iload 5, 2) := by decide +kernel
theorem d_L_law_778 : decode code 778 = .ok (.if_icmp .eq 5, 3) := by decide +kernel
theorem d_L_law_781 : decode code 781 = .ok (.iconst 0, 1) := by decide +kernel
theorem d_L_law_782 : decode code 782 = .ok (.ireturn, 1) := by decide +kernel
theorem d_L_law_783 : decode code 783 = .ok (.iload 5, 2) := by decide +kernel
theorem d_L_law_785 : decode code 785 = .ok (.ifCond .ne 15, 3) := by decide +kernel
theorem d_L_law_788 : decode code 788 = .ok (.aload_n 3, 1) := by decide +kernel
theorem d_L_law_789 : decode code 789 = .ok (.iconst 0, 1) := by decide +kernel
theorem d_L_law_790 : decode code 790 = .ok (.laload, 1) := by decide +kernel
theorem d_L_law_791 : decode code 791 = .ok (.iload 6, 2) := by decide +kernel
theorem d_L_law_793 : decode code 793 = .ok (.i2l, 1) := by decide +kernel
theorem d_L_law_794 : decode code 794 = .ok (.lcmp, 1) := by decide +kernel
theorem d_L_law_795 : decode code 795 = .ok (.ifCond .eq 5, 3) := by decide +kernel
theorem d_L_law_798 : decode code 798 = .ok (.iconst 0, 1) := by decide +kernel
theorem d_L_law_799 : decode code 799 = .ok (.ireturn, 1) := by decide +kernel
theorem d_L_law_800 : decode code 800 = .ok (.goto 314, 3) := by decide +kernel
theorem d_L_law_803 : decode code 803 = .ok (.aload_n 1, 1) := by decide +kernel
theorem d_L_law_804 : decode code 804 = .ok (.aload_n 0, 1) := by decide +kernel
theorem d_L_law_805 : decode code 805 = .ok (.iload 4, 2) := by decide +kernel
theorem d_L_law_807 : decode code 807 = .ok (.iconst 1, 1) := by decide +kernel
theorem d_L_law_808 : decode code 808 = .ok (.iadd, 1) := by decide +kernel
theorem d_L_law_809 : decode code 809 = .ok (.iaload, 1) := by decide +kernel
theorem d_L_law_810 : decode code 810 = .ok (.aload_n 3, 1) := by decide +kernel
theorem d_L_law_811 : decode code 811 = .ok (.invokestatic 109, 3) := by decide +kernel
theorem d_L_law_814 : decode code 814 = .ok (.istore 5, 2) := by decide +kernel
theorem d_L_law_816 : decode code 816 = .ok (.aload_n 2, 1) := by decide +kernel
theorem d_L_law_817 : decode code 817 = .ok (.aload_n 0, 1) := by decide +kernel
theorem d_L_law_818 : decode code 818 = .ok (.iload 4, 2) := by decide +kernel
theorem d_L_law_820 : decode code 820 = .ok (.iconst 1, 1) := by decide +kernel
theorem d_L_law_821 : decode code 821 = .ok (.iadd, 1) := by decide +kernel
theorem d_L_law_822 : decode code 822 = .ok (.iaload, 1) := by decide +kernel
theorem d_L_law_823 : decode code 823 = .ok (.invokevirtual 111, 3) := by decide +kernel
theorem d_L_law_826 : decode code 826 = .ok (.istore 6, 2) := by decide +kernel
theorem d_L_law_828 : decode code 828 = .ok (.aload_n 2, 1) := by decide +kernel
theorem d_L_law_829 : decode code 829 = .ok (.invokevirtual 74, 3) := by decide +kernel
theorem d_L_law_832 : decode code 832 = .ok (.iload 5, 2) := by decide +kernel
theorem d_L_law_834 : decode code 834 = .ok (.if_icmp .eq 5, 3) := by decide +kernel
theorem d_L_law_837 : decode code 837 = .ok (.iconst 0, 1) := by decide +kernel
theorem d_L_law_838 : decode code 838 = .ok (.ireturn, 1) := by decide +kernel
theorem d_L_law_839 : decode code 839 = .ok (.iload 5, 2) := by decide +kernel
theorem d_L_law_841 : decode code 841 = .ok (.ifCond .ne 15, 3) := by decide +kernel
theorem d_L_law_844 : decode code 844 = .ok (.aload_n 3, 1) := by decide +kernel
theorem d_L_law_845 : decode code 845 = .ok (.iconst 0, 1) := by decide +kernel
theorem d_L_law_846 : decode code 846 = .ok (.laload, 1) := by decide +kernel
theorem d_L_law_847 : decode code 847 = .ok (.iload 6, 2) := by decide +kernel
theorem d_L_law_849 : decode code 849 = .ok (.i2l, 1) := by decide +kernel
theorem d_L_law_850 : decode code 850 = .ok (.lcmp, 1) := by decide +kernel
theorem d_L_law_851 : decode code 851 = .ok (.ifCond .eq 5, 3) := by decide +kernel
theorem d_L_law_854 : decode code 854 = .ok (.iconst 0, 1) := by decide +kernel
theorem d_L_law_855 : decode code 855 = .ok (.ireturn, 1) := by decide +kernel
theorem d_L_law_856 : decode code 856 = .ok (.goto 258, 3) := by decide +kernel
theorem d_L_law_859 : decode code 859 = .ok (.aload_n 1, 1) := by decide +kernel
theorem d_L_law_860 : decode code 860 = .ok (.aload_n 0, 1) := by decide +kernel
theorem d_L_law_861 : decode code 861 = .ok (.iload 4, 2) := by decide +kernel
theorem d_L_law_863 : decode code 863 = .ok (.iconst 1, 1) := by decide +kernel
theorem d_L_law_864 : decode code 864 = .ok (.iadd, 1) := by decide +kernel
theorem d_L_law_865 : decode code 865 = .ok (.iaload, 1) := by decide +kernel
theorem d_L_law_866 : decode code 866 = .ok (.aload_n 3, 1) := by decide +kernel
theorem d_L_law_867 : decode code 867 = .ok (.invokestatic 112, 3) := by decide +kernel
theorem d_L_law_870 : decode code 870 = .ok (.istore 5, 2) := by decide +kernel
theorem d_L_law_872 : decode code 872 = .ok (.aload_n 2, 1) := by decide +kernel
theorem d_L_law_873 : decode code 873 = .ok (.aload_n 0, 1) := by decide +kernel
theorem d_L_law_874 : decode code 874 = .ok (.iload 4, 2) := by decide +kernel
theorem d_L_law_876 : decode code 876 = .ok (.iconst 1, 1) := by decide +kernel
theorem d_L_law_877 : decode code 877 = .ok (.iadd, 1) := by decide +kernel
theorem d_L_law_878 : decode code 878 = .ok (.iaload, 1) := by decide +kernel
theorem d_L_law_879 : decode code 879 = .ok (.invokevirtual 114, 3) := by decide +kernel
theorem d_L_law_882 : decode code 882 = .ok (.istore 6, 2) := by decide +kernel
theorem d_L_law_884 : decode code 884 = .ok (.aload_n 2, 1) := by decide +kernel
theorem d_L_law_885 : decode code 885 = .ok (.invokevirtual 74, 3) := by decide +kernel
theorem d_L_law_888 : decode code 888 = .ok (.iload 5, 2) := by decide +kernel
theorem d_L_law_890 : decode code 890 = .ok (.if_icmp .eq 5, 3) := by decide +kernel
theorem d_L_law_893 : decode code 893 = .ok (.iconst 0, 1) := by decide +kernel
theorem d_L_law_894 : decode code 894 = .ok (.ireturn, 1) := by decide +kernel
theorem d_L_law_895 : decode code 895 = .ok (.iload 5, 2) := by decide +kernel
theorem d_L_law_897 : decode code 897 = .ok (.ifCond .ne 15, 3) := by decide +kernel
theorem d_L_law_900 : decode code 900 = .ok (.aload_n 3, 1) := by decide +kernel
theorem d_L_law_901 : decode code 901 = .ok (.iconst 0, 1) := by decide +kernel
theorem d_L_law_902 : decode code 902 = .ok (.laload, 1) := by decide +kernel
theorem d_L_law_903 : decode code 903 = .ok (.iload 6, 2) := by decide +kernel
theorem d_L_law_905 : decode code 905 = .ok (.i2l, 1) := by decide +kernel
theorem d_L_law_906 : decode code 906 = .ok (.lcmp, 1) := by decide +kernel
theorem d_L_law_907 : decode code 907 = .ok (.ifCond .eq 5, 3) := by decide +kernel
theorem d_L_law_910 : decode code 910 = .ok (.iconst 0, 1) := by decide +kernel
theorem d_L_law_911 : decode code 911 = .ok (.ireturn, 1) := by decide +kernel
theorem d_L_law_912 : decode code 912 = .ok (.goto 202, 3) := by decide +kernel
theorem d_L_law_915 : decode code 915 = .ok (.aload_n 1, 1) := by decide +kernel
theorem d_L_law_916 : decode code 916 = .ok (.aload_n 0, 1) := by decide +kernel
theorem d_L_law_917 : decode code 917 = .ok (.iload 4, 2) := by decide +kernel
theorem d_L_law_919 : decode code 919 = .ok (.iconst 1, 1) := by decide +kernel
theorem d_L_law_920 : decode code 920 = .ok (.iadd, 1) := by decide +kernel
theorem d_L_law_921 : decode code 921 = .ok (.iaload, 1) := by decide +kernel
theorem d_L_law_922 : decode code 922 = .ok (.aload_n 0, 1) := by decide +kernel
theorem d_L_law_923 : decode code 923 = .ok (.iload 4, 2) := by decide +kernel
theorem d_L_law_925 : decode code 925 = .ok (.iconst 2, 1) := by decide +kernel
theorem d_L_law_926 : decode code 926 = .ok (.iadd, 1) := by decide +kernel
theorem d_L_law_927 : decode code 927 = .ok (.iaload, 1) := by decide +kernel
theorem d_L_law_928 : decode code 928 = .ok (.aload_n 3, 1) := by decide +kernel
theorem d_L_law_929 : decode code 929 = .ok (.invokestatic 115, 3) := by decide +kernel
theorem d_L_law_932 : decode code 932 = .ok (.istore 5, 2) := by decide +kernel
theorem d_L_law_934 : decode code 934 = .ok (.aload_n 2, 1) := by decide +kernel
theorem d_L_law_935 : decode code 935 = .ok (.aload_n 0, 1) := by decide +kernel
theorem d_L_law_936 : decode code 936 = .ok (.iload 4, 2) := by decide +kernel
theorem d_L_law_938 : decode code 938 = .ok (.iconst 1, 1) := by decide +kernel
theorem d_L_law_939 : decode code 939 = .ok (.iadd, 1) := by decide +kernel
theorem d_L_law_940 : decode code 940 = .ok (.iaload, 1) := by decide +kernel
theorem d_L_law_941 : decode code 941 = .ok (.aload_n 0, 1) := by decide +kernel
theorem d_L_law_942 : decode code 942 = .ok (.iload 4, 2) := by decide +kernel
theorem d_L_law_944 : decode code 944 = .ok (.iconst 2, 1) := by decide +kernel
theorem d_L_law_945 : decode code 945 = .ok (.iadd, 1) := by decide +kernel
theorem d_L_law_946 : decode code 946 = .ok (.iaload, 1) := by decide +kernel
theorem d_L_law_947 : decode code 947 = .ok (.invokevirtual 117, 3) := by decide +kernel
theorem d_L_law_950 : decode code 950 = .ok (.istore 6, 2) := by decide +kernel
theorem d_L_law_952 : decode code 952 = .ok (.aload_n 2, 1) := by decide +kernel
theorem d_L_law_953 : decode code 953 = .ok (.invokevirtual 74, 3) := by decide +kernel
theorem d_L_law_956 : decode code 956 = .ok (.iload 5, 2) := by decide +kernel
