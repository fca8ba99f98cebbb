theorem dL_law_802 : decode cL_law 802 = .ok (.aload_n 0, 1) := by decide +kernel
theorem dL_law_803 : decode cL_law 803 = .ok (.iload_n 3, 1) := by decide +kernel
theorem dL_law_804 : decode cL_law 804 = .ok (.iconst 1, 1) := by decide +kernel
theorem dL_law_805 : decode cL_law 805 = .ok (.iadd, 1) := by decide +kernel
theorem dL_law_806 : decode cL_law 806 = .ok (.iaload, 1) := by decide +kernel
theorem dL_law_807 : decode cL_law 807 = .ok (.invokevirtual 86, 3) := by decide +kernel
theorem dL_law_810 : decode cL_law 810 = .ok (.aload_n 2, 1) := by decide +kernel
theorem dL_law_811 : decode cL_law 811 = .ok (.aload_n 0, 1) := by decide +kernel
theorem dL_law_812 : decode cL_law 812 = .ok (.iload_n 3, 1) := by decide +kernel
theorem dL_law_813 : decode cL_law 813 = .ok (.iconst 1, 1) := by decide +kernel
theorem dL_law_814 : decode cL_law 814 = .ok (.iadd, 1) := by decide +kernel
theorem dL_law_815 : decode cL_law 815 = .ok (.iaload, 1) := by decide +kernel
theorem dL_law_816 : decode cL_law 816 = .ok (.invokevirtual 90, 3) := by decide +kernel
theorem dL_law_819 : decode cL_law 819 = .ok (.if_icmp .eq 153, 3) := by decide +kernel
theorem dL_law_822 : decode cL_law 822 = .ok (.iconst 0, 1) := by decide +kernel
theorem dL_law_823 : decode cL_law 823 = .ok (.ireturn, 1) := by decide +kernel
theorem dL_law_824 : decode cL_law 824 = .ok (.aload_n 1, 1) := by decide +kernel
theorem dL_law_825 : decode cL_law 825 = .ok (.aload_n 0, 1) := by decide +kernel
theorem dL_law_826 : decode cL_law 826 = .ok (.iload_n 3, 1) := by decide +kernel
theorem dL_law_827 : decode cL_law 827 = .ok (.iconst 1, 1) := by decide +kernel
theorem dL_law_828 : decode cL_law 828 = .ok (.iadd, 1) := by decide +kernel
theorem dL_law_829 : decode cL_law 829 = .ok (.iaload, 1) := by decide +kernel
theorem dL_law_830 : decode cL_law 830 = .ok (.invokevirtual 91, 3) := by decide +kernel
theorem dL_law_833 : decode cL_law 833 = .ok (.aload_n 2, 1) := by decide +kernel
theorem dL_law_834 : decode cL_law 834 = .ok (.aload_n 0, 1) := by decide +kernel
theorem dL_law_835 : decode cL_law 835 = .ok (.iload_n 3, 1) := by decide +kernel
theorem dL_law_836 : decode cL_law 836 = .ok (.iconst 1, 1) := by decide +kernel
theorem dL_law_837 : decode cL_law 837 = .ok (.iadd, 1) := by decide +kernel
theorem dL_law_838 : decode cL_law 838 = .ok (.iaload, 1) := by decide +kernel
theorem dL_law_839 : decode cL_law 839 = .ok (.invokevirtual 94, 3) := by decide +kernel
theorem dL_law_842 : decode cL_law 842 = .ok (.if_icmp .eq 130, 3) := by decide +kernel
theorem dL_law_845 : decode cL_law 845 = .ok (.iconst 0, 1) := by decide +kernel
theorem dL_law_846 : decode cL_law 846 = .ok (.ireturn, 1) := by decide +kernel
theorem dL_law_847 : decode cL_law 847 = .ok (.aload_n 1, 1) := by decide +kernel
theorem dL_law_848 : decode cL_law 848 = .ok (.invokevirtual 95, 3) := by decide +kernel
theorem dL_law_851 : decode cL_law 851 = .ok (.aload_n 2, 1) := by decide +kernel
theorem dL_law_852 : decode cL_law 852 = .ok (.invokevirtual 98, 3) := by decide +kernel
theorem dL_law_855 : decode cL_law 855 = .ok (.if_icmp .eq 117, 3) := by decide +kernel
theorem dL_law_858 : decode cL_law 858 = .ok (.iconst 0, 1) := by decide +kernel
theorem dL_law_859 : decode cL_law 859 = .ok (.ireturn, 1) := by decide +kernel
theorem dL_law_860 : decode cL_law 860 = .ok (.aload_n 1, 1) := by decide +kernel
theorem dL_law_861 : decode cL_law 861 = .ok (.invokevirtual 99, 3) := by decide +kernel
theorem dL_law_864 : decode cL_law 864 = .ok (.aload_n 2, 1) := by decide +kernel
theorem dL_law_865 : decode cL_law 865 = .ok (.invokevirtual 102, 3) := by decide +kernel
theorem dL_law_868 : decode cL_law 868 = .ok (.if_icmp .eq 104, 3) := by decide +kernel
theorem dL_law_871 : decode cL_law 871 = .ok (.iconst 0, 1) := by decide +kernel
theorem dL_law_872 : decode cL_law 872 = .ok (.ireturn, 1) := by decide +kernel
theorem dL_law_873 : decode cL_law 873 = .ok (.aload_n 1, 1) := by decide +kernel
theorem dL_law_874 : decode cL_law 874 = .ok (.aload_n 0, 1) := by decide +kernel
theorem dL_law_875 : decode cL_law 875 = .ok (.iload_n 3, 1) := by decide +kernel
theorem dL_law_876 : decode cL_law 876 = .ok (.iconst 1, 1) := by decide +kernel
theorem dL_law_877 : decode cL_law 877 = .ok (.iadd, 1) := by decide +kernel
theorem dL_law_878 : decode cL_law 878 = .ok (.iaload, 1) := by decide +kernel
theorem dL_law_879 : decode cL_law 879 = .ok (.invokevirtual 103, 3) := by decide +kernel
theorem dL_law_882 : decode cL_law 882 = .ok (.aload_n 2, 1) := by decide +kernel
theorem dL_law_883 : decode cL_law 883 = .ok (.aload_n 0, 1) := by decide +kernel
theorem dL_law_884 : decode cL_law 884 = .ok (.iload_n 3, 1) := by decide +kernel
theorem dL_law_885 : decode cL_law 885 = .ok (.iconst 1, 1) := by decide +kernel
theorem dL_law_886 : decode cL_law 886 = .ok (.iadd, 1) := by decide +kernel
theorem dL_law_887 : decode cL_law 887 = .ok (.iaload, 1) := by decide +kernel
theorem dL_law_888 : decode cL_law 888 = .ok (.invokevirtual 106, 3) := by decide +kernel
theorem dL_law_891 : decode cL_law 891 = .ok (.if_icmp .eq 81, 3) := by decide +kernel
theorem dL_law_894 : decode cL_law 894 = .ok (.iconst 0, 1) := by decide +kernel
theorem dL_law_895 : decode cL_law 895 = .ok (.ireturn, 1) := by decide +kernel
theorem dL_law_896 : decode cL_law 896 = .ok (.aload_n 1, 1) := by decide +kernel
theorem dL_law_897 : decode cL_law 897 = .ok (.invokevirtual 107, 3) := by decide +kernel
theorem dL_law_900 : decode cL_law 900 = .ok (.aload_n 2, 1) := by decide +kernel
theorem dL_law_901 : decode cL_law 901 = .ok (.invokevirtual 110, 3) := by decide +kernel
theorem dL_law_904 : decode cL_law 904 = .ok (.if_icmp .eq 68, 3) := by decide +kernel
theorem dL_law_907 : decode cL_law 907 = .ok (.iconst 0, 1) := by decide +kernel
theorem dL_law_908 : decode cL_law 908 = .ok (.ireturn, 1) := by decide +kernel
theorem dL_law_909 : decode cL_law 909 = .ok (.aload_n 1, 1) := by decide +kernel
theorem dL_law_910 : decode cL_law 910 = .ok (.invokevirtual 111, 3) := by decide +kernel
theorem dL_law_913 : decode cL_law 913 = .ok (.aload_n 2, 1) := by decide +kernel
theorem dL_law_914 : decode cL_law 914 = .ok (.invokevirtual 114, 3) := by decide +kernel
theorem dL_law_917 : decode cL_law 917 = .ok (.if_icmp .eq 55, 3) := by decide +kernel
theorem dL_law_920 : decode cL_law 920 = .ok (.iconst 0, 1) := by decide +kernel
theorem dL_law_921 : decode cL_law 921 = .ok (.ireturn, 1) := by decide +kernel
theorem dL_law_922 : decode cL_law 922 = .ok (.aload_n 1, 1) := by decide +kernel
theorem dL_law_923 : decode cL_law 923 = .ok (.invokevirtual 115, 3) := by decide +kernel
theorem dL_law_926 : decode cL_law 926 = .ok (.aload_n 2, 1) := by decide +kernel
theorem dL_law_927 : decode cL_law 927 = .ok (.invokevirtual 118, 3) := by decide +kernel
theorem dL_law_930 : decode cL_law 930 = .ok (.if_icmp .eq 42, 3) := by decide +kernel
theorem dL_law_933 : decode cL_law 933 = .ok (.iconst 0, 1) := by decide +kernel
theorem dL_law_934 : decode cL_law 934 = .ok (.ireturn, 1) := by decide +kernel
theorem dL_law_935 : decode cL_law 935 = .ok (.aload_n 1, 1) := by decide +kernel
theorem dL_law_936 : decode cL_law 936 = .ok (.aload_n 0, 1) := by decide +kernel
theorem dL_law_937 : decode cL_law 937 = .ok (.iload_n 3, 1) := by decide +kernel
theorem dL_law_938 : decode cL_law 938 = .ok (.iconst 1, 1) := by decide +kernel
theorem dL_law_939 : decode cL_law 939 = .ok (.iadd, 1) := by decide +kernel
theorem dL_law_940 : decode cL_law 940 = .ok (.iaload, 1) := by decide +kernel
theorem dL_law_941 : decode cL_law 941 = .ok (.invokevirtual 119, 3) := by decide +kernel
theorem dL_law_944 : decode cL_law 944 = .ok (.aload_n 2, 1) := by decide +kernel
theorem dL_law_945 : decode cL_law 945 = .ok (.aload_n 0, 1) := by decide +kernel
theorem dL_law_946 : decode cL_law 946 = .ok (.iload_n 3, 1) := by decide +kernel
theorem dL_law_947 : decode cL_law 947 = .ok (.iconst 1, 1) := by decide +kernel
theorem dL_law_948 : decode cL_law 948 = .ok (.iadd, 1) := by decide +kernel
theorem dL_law_949 : decode cL_law 949 = .ok (.iaload, 1) := by decide +kernel
theorem dL_law_950 : decode cL_law 950 = .ok (.invokevirtual 122, 3) := by decide +kernel
theorem dL_law_953 : decode cL_law 953 = .ok (.if_icmp .eq 19, 3) := by decide +kernel
theorem dL_law_956 : decode cL_law 956 = .ok (.iconst 0, 1) := by decide +kernel
theorem dL_law_957 : decode cL_law 957 = .ok (.ireturn, 1) := by decide +kernel
theorem dL_law_958 : decode cL_law 958 = .ok (.aload_n 1, 1) := by decide +kernel
theorem dL_law_959 : decode cL_law 959 = .ok (.invokevirtual 123, 3) := by decide +kernel
theorem dL_law_962 : decode cL_law 962 = .ok (.aload_n 2, 1) := by decide +kernel
theorem dL_law_963 : decode cL_law 963 = .ok (.invokevirtual 127, 3) := by decide +kernel
theorem dL_law_966 : decode cL_law 966 = .ok (.lcmp, 1) := by decide +kernel
theorem dL_law_967 : decode cL_law 967 = .ok (.ifCond .eq 5, 3) := by decide +kernel
theorem dL_law_970 : decode cL_law 970 = .ok (.iconst 0, 1) := by decide +kernel
theorem dL_law_971 : decode cL_law 971 = .ok (.ireturn, 1) := by decide +kernel
theorem dL_law_972 : decode cL_law 972 = .ok (.iinc 3 6, 3) := by decide +kernel
theorem dL_law_975 : decode cL_law 975 = .ok (.goto (-957), 3) := by decide +kernel
theorem dL_law_978 : decode cL_law 978 = .ok (.iconst 1, 1) := by decide +kernel
theorem dL_law_979 : decode cL_law 979 = .ok (.ireturn, 1) := by decide +kernel
