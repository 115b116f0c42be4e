theorem d_Lw_law_778 : decode code 778 = .ok (.invokevirtual 99, 3) := by decide +kernel
theorem d_Lw_law_781 : decode code 781 = .ok (.aload_n 2, 1) := by decide +kernel
theorem d_Lw_law_782 : decode code 782 = .ok (.invokevirtual 102, 3) := by decide +kernel
theorem d_Lw_law_785 : decode code 785 = .ok (.if_icmp .eq 204, 3) := by decide +kernel
theorem d_Lw_law_788 : decode code 788 = .ok (.iconst 0, 1) := by decide +kernel
theorem d_Lw_law_789 : decode code 789 = .ok (.ireturn, 1) := by decide +kernel
theorem d_Lw_law_790 : decode code 790 = .ok (.aload_n 1, 1) := by decide +kernel
theorem d_Lw_law_791 : decode code 791 = .ok (.invokevirtual 103, 3) := by decide +kernel
theorem d_Lw_law_794 : decode code 794 = .ok (.aload_n 2, 1) := by decide +kernel
theorem d_Lw_law_795 : decode code 795 = .ok (.invokevirtual 106, 3) := by decide +kernel
theorem d_Lw_law_798 : decode code 798 = .ok (.if_icmp .eq 191, 3) := by decide +kernel
theorem d_Lw_law_801 : decode code 801 = .ok (.iconst 0, 1) := by decide +kernel
theorem d_Lw_law_802 : decode code 802 = .ok (.ireturn, 1) := by decide +kernel
theorem d_Lw_law_803 : decode code 803 = .ok (.aload_n 1, 1) := by decide +kernel
theorem d_Lw_law_804 : decode code 804 = .ok (.aload_n 0, 1) := by decide +kernel
theorem d_Lw_law_805 : decode code 805 = .ok (.iload 4, 2) := by decide +kernel
theorem d_Lw_law_807 : decode code 807 = .ok (.iconst 1, 1) := by decide +kernel
theorem d_Lw_law_808 : decode code 808 = .ok (.iadd, 1) := by decide +kernel
theorem d_Lw_law_809 : decode code 809 = .ok (.iaload, 1) := by decide +kernel
theorem d_Lw_law_810 : decode code 810 = .ok (.invokevirtual 107, 3) := by decide +kernel
theorem d_Lw_law_813 : decode code 813 = .ok (.aload_n 2, 1) := by decide +kernel
theorem d_Lw_law_814 : decode code 814 = .ok (.aload_n 0, 1) := by decide +kernel
theorem d_Lw_law_815 : decode code 815 = .ok (.iload 4, 2) := by decide +kernel
theorem d_Lw_law_817 : decode code 817 = .ok (.iconst 1, 1) := by decide +kernel
theorem d_Lw_law_818 : decode code 818 = .ok (.iadd, 1) := by decide +kernel
theorem d_Lw_law_819 : decode code 819 = .ok (.iaload, 1) := by decide +kernel
theorem d_Lw_law_820 : decode code 820 = .ok (.invokevirtual 110, 3) := by decide +kernel
theorem d_Lw_law_823 : decode code 823 = .ok (.if_icmp .eq 166, 3) := by decide +kernel
theorem d_Lw_law_826 : decode code 826 = .ok (.iconst 0, 1) := by decide +kernel
theorem d_Lw_law_827 : decode code 827 = .ok (.ireturn, 1) := by decide +kernel
theorem d_Lw_law_828 : decode code 828 = .ok (.aload_n 1, 1) := by decide +kernel
theorem d_Lw_law_829 : decode code 829 = .ok (.aload_n 0, 1) := by decide +kernel
theorem d_Lw_law_830 : decode code 830 = .ok (.iload 4, 2) := by decide +kernel
theorem d_Lw_law_832 : decode code 832 = .ok (.iconst 1, 1) := by decide +kernel
theorem d_Lw_law_833 : decode code 833 = .ok (.iadd, 1) := by decide +kernel
theorem d_Lw_law_834 : decode code 834 = .ok (.iaload, 1) := by decide +kernel
theorem d_Lw_law_835 : decode code 835 = .ok (.invokevirtual 111, 3) := by decide +kernel
theorem d_Lw_law_838 : decode code 838 = .ok (.aload_n 2, 1) := by decide +kernel
theorem d_Lw_law_839 : decode code 839 = .ok (.aload_n 0, 1) := by decide +kernel
theorem d_Lw_law_840 : decode code 840 = .ok (.iload 4, 2) := by decide +kernel
theorem d_Lw_law_842 : decode code 842 = .ok (.iconst 1, 1) := by decide +kernel
theorem d_Lw_law_843 : decode code 843 = .ok (.iadd, 1) := by decide +kernel
theorem d_Lw_law_844 : decode code 844 = .ok (.iaload, 1) := by decide +kernel
theorem d_Lw_law_845 : decode code 845 = .ok (.invokevirtual 114, 3) := by decide +kernel
theorem d_Lw_law_848 : decode code 848 = .ok (.if_icmp .eq 141, 3) := by decide +kernel
theorem d_Lw_law_851 : decode code 851 = .ok (.iconst 0, 1) := by decide +kernel
theorem d_Lw_law_852 : decode code 852 = .ok (.ireturn, 1) := by decide +kernel
theorem d_Lw_law_853 : decode code 853 = .ok (.aload_n 1, 1) := by decide +kernel
theorem d_Lw_law_854 : decode code 854 = .ok (.aload_n 0, 1) := by decide +kernel
theorem d_Lw_law_855 : decode code 855 = .ok (.iload 4, 2) := by decide +kernel
theorem d_Lw_law_857 : decode code 857 = .ok (.iconst 1, 1) := by decide +kernel
theorem d_Lw_law_858 : decode code 858 = .ok (.iadd, 1) := by decide +kernel
theorem d_Lw_law_859 : decode code 859 = .ok (.iaload, 1) := by decide +kernel
theorem d_Lw_law_860 : decode code 860 = .ok (.aload_n 0, 1) := by decide +kernel
theorem d_Lw_law_861 : decode code 861 = .ok (.iload 4, 2) := by decide +kernel
theorem d_Lw_law_863 : decode code 863 = .ok (.iconst 2, 1) := by decide +kernel
theorem d_Lw_law_864 : decode code 864 = .ok (.iadd, 1) := by decide +kernel
theorem d_Lw_law_865 : decode code 865 = .ok (.iaload, 1) := by decide +kernel
theorem d_Lw_law_866 : decode code 866 = .ok (.invokevirtual 115, 3) := by decide +kernel
theorem d_Lw_law_869 : decode code 869 = .ok (.aload_n 2, 1) := by decide +kernel
theorem d_Lw_law_870 : decode code 870 = .ok (.aload_n 0, 1) := by decide +kernel
theorem d_Lw_law_871 : decode code 871 = .ok (.iload 4, 2) := by decide +kernel
theorem d_Lw_law_873 : decode code 873 = .ok (.iconst 1, 1) := by decide +kernel
theorem d_Lw_law_874 : decode code 874 = .ok (.iadd, 1) := by decide +kernel
theorem d_Lw_law_875 : decode code 875 = .ok (.iaload, 1) := by decide +kernel
theorem d_Lw_law_876 : decode code 876 = .ok (.aload_n 0, 1) := by decide +kernel
theorem d_Lw_law_877 : decode code 877 = .ok (.iload 4, 2) := by decide +kernel
theorem d_Lw_law_879 : decode code 879 = .ok (.iconst 2, 1) := by decide +kernel
theorem d_Lw_law_880 : decode code 880 = .ok (.iadd, 1) := by decide +kernel
theorem d_Lw_law_881 : decode code 881 = .ok (.iaload, 1) := by decide +kernel
theorem d_Lw_law_882 : decode code 882 = .ok (.invokevirtual 118, 3) := by decide +kernel
theorem d_Lw_law_885 : decode code 885 = .ok (.if_icmp .eq 104, 3) := by decide +kernel
theorem d_Lw_law_888 : decode code 888 = .ok (.iconst 0, 1) := by decide +kernel
theorem d_Lw_law_889 : decode code 889 = .ok (.ireturn, 1) := by decide +kernel
theorem d_Lw_law_890 : decode code 890 = .ok (.aload_n 1, 1) := by decide +kernel
theorem d_Lw_law_891 : decode code 891 = .ok (.aload_n 0, 1) := by decide +kernel
theorem d_Lw_law_892 : decode code 892 = .ok (.iload 4, 2) := by decide +kernel
theorem d_Lw_law_894 : decode code 894 = .ok (.iconst 1, 1) := by decide +kernel
theorem d_Lw_law_895 : decode code 895 = .ok (.iadd, 1) := by decide +kernel
theorem d_Lw_law_896 : decode code 896 = .ok (.iaload, 1) := by decide +kernel
theorem d_Lw_law_897 : decode code 897 = .ok (.invokevirtual 119, 3) := by decide +kernel
theorem d_Lw_law_900 : decode code 900 = .ok (.aload_n 2, 1) := by decide +kernel
theorem d_Lw_law_901 : decode code 901 = .ok (.aload_n 0, 1) := by decide +kernel
theorem d_Lw_law_902 : decode code 902 = .ok (.iload 4, 2) := by decide +kernel
theorem d_Lw_law_904 : decode code 904 = .ok (.iconst 1, 1) := by decide +kernel
theorem d_Lw_law_905 : decode code 905 = .ok (.iadd, 1) := by decide +kernel
theorem d_Lw_law_906 : decode code 906 = .ok (.iaload, 1) := by decide +kernel
theorem d_Lw_law_907 : decode code 907 = .ok (.invokevirtual 122, 3) := by decide +kernel
theorem d_Lw_law_910 : decode code 910 = .ok (.if_icmp .eq 79, 3) := by decide +kernel
theorem d_Lw_law_913 : decode code 913 = .ok (.iconst 0, 1) := by decide +kernel
theorem d_Lw_law_914 : decode code 914 = .ok (.ireturn, 1) := by decide +kernel
theorem d_Lw_law_915 : decode code 915 = .ok (.aload_n 1, 1) := by decide +kernel
theorem d_Lw_law_916 : decode code 916 = .ok (.aload_n 0, 1) := by decide +kernel
theorem d_Lw_law_917 : decode code 917 = .ok (.iload 4, 2) := by decide +kernel
theorem d_Lw_law_919 : decode code 919 = .ok (.iconst 1, 1) := by decide +kernel
theorem d_Lw_law_920 : decode code 920 = .ok (.iadd, 1) := by decide +kernel
theorem d_Lw_law_921 : decode code 921 = .ok (.iaload, 1) := by decide +kernel
theorem d_Lw_law_922 : decode code 922 = .ok (.aload_n 0, 1) := by decide +kernel
theorem d_Lw_law_923 : decode code 923 = .ok (.iload 4, 2) := by decide +kernel
theorem d_Lw_law_925 : decode code 925 = .ok (.iconst 2, 1) := by decide +kernel
theorem d_Lw_law_926 : decode code 926 = .ok (.iadd, 1) := by decide +kernel
theorem d_Lw_law_927 : decode code 927 = .ok (.iaload, 1) := by decide +kernel
theorem d_Lw_law_928 : decode code 928 = .ok (.invokevirtual 123, 3) := by decide +kernel
theorem d_Lw_law_931 : decode code 931 = .ok (.aload_n 2, 1) := by decide +kernel
theorem d_Lw_law_932 : decode code 932 = .ok (.aload_n 0, 1) := by decide +kernel
theorem d_Lw_law_933 : decode code 933 = .ok (.iload 4, 2) := by decide +kernel
theorem d_Lw_law_935 : decode code 935 = .ok (.iconst 1, 1) := by decide +kernel
theorem d_Lw_law_936 : decode code 936 = .ok (.iadd, 1) := by decide +kernel
theorem d_Lw_law_937 : decode code 937 = .ok (.iaload, 1) := by decide +kernel
theorem d_Lw_law_938 : decode code 938 = .ok (.aload_n 0, 1) := by decide +kernel
theorem d_Lw_law_939 : decode code 939 = .ok (.iload 4, 2) := by decide +kernel
theorem d_Lw_law_941 : decode code 941 = .ok (.iconst 2, 1) := by decide +kernel
theorem d_Lw_law_942 : decode code 942 = .ok (.iadd, 1) := by decide +kernel
theorem d_Lw_law_943 : decode code 943 = .ok (.iaload, 1) := by decide +kernel
theorem d_Lw_law_944 : decode code 944 = .ok (.invokevirtual 127, 3) := by decide +kernel
theorem d_Lw_law_947 : decode code 947 = .ok (.if_icmp .eq 42, 3) := by decide +kernel
theorem d_Lw_law_950 : decode code 950 = .ok (.iconst 0, 1) := by decide +kernel
theorem d_Lw_law_951 : decode code 951 = .ok (.ireturn, 1) := by decide +kernel
theorem d_Lw_law_952 : decode code 952 = .ok (.aload_n 1, 1) := by decide +kernel
theorem d_Lw_law_953 : decode code 953 = .ok (.aload_n 0, 1) := by decide +kernel
theorem d_Lw_law_954 : decode code 954 = .ok (.iload 4, 2) := by decide +kernel
theorem d_Lw_law_956 : decode code 956 = .ok (.iconst 1, 1) := by decide +kernel
theorem d_Lw_law_957 : decode code 957 = .ok (.iadd, 1) := by decide +kernel
theorem d_Lw_law_958 : decode code 958 = .ok (.iaload, 1) := by decide +kernel
theorem d_Lw_law_959 : decode code 959 = .ok (.aload_n 0, 1) := by decide +kernel
theorem d_Lw_law_960 : decode code 960 = .ok (.iload 4, 2) := by decide +kernel
theorem d_Lw_law_962 : decode code 962 = .ok (.iconst 2, 1) := by decide +kernel
theorem d_Lw_law_963 : decode code 963 = .ok (.iadd, 1) := by decide +kernel
theorem d_Lw_law_964 : decode code 964 = .ok (.iaload, 1) := by decide +kernel
theorem d_Lw_law_965 : decode code 965 = .ok (.invokevirtual 128, 3) := by decide +kernel
theorem d_Lw_law_968 : decode code 968 = .ok (.aload_n 2, 1) := by decide +kernel
theorem d_Lw_law_969 : decode code 969 = .ok (.aload_n 0, 1) := by decide +kernel
theorem d_Lw_law_970 : decode code 970 = .ok (.iload 4, 2) := by decide +kernel
theorem d_Lw_law_972 : decode code 972 = .ok (.iconst 1, 1) := by decide +kernel
theorem d_Lw_law_973 : decode code 973 = .ok (.iadd, 1) := by decide +kernel
theorem d_Lw_law_974 : decode code 974 = .ok (.iaload, 1) := by decide +kernel
theorem d_Lw_law_975 : decode code 975 = .ok (.aload_n 0, 1) := by decide +kernel
theorem d_Lw_law_976 : decode code 976 = .ok (.iload 4, 2) := by decide +kernel
theorem d_Lw_law_978 : decode code 978 = .ok (.iconst 2, 1) := by decide +kernel
theorem d_Lw_law_979 : decode code 979 = .ok (.iadd, 1) := by decide +kernel
theorem d_Lw_law_980 : decode code 980 = .ok (.iaload, 1) := by decide +kernel
theorem d_Lw_law_981 : decode code 981 = .ok (.invokevirtual 131, 3) := by decide +kernel
theorem d_Lw_law_984 : decode code 984 = .ok (.if_icmp .eq 5, 3) := by decide +kernel
theorem d_Lw_law_987 : decode code 987 = .ok (.iconst 0, 1) := by decide +kernel
theorem d_Lw_law_988 : decode code 988 = .ok (.ireturn, 1) := by decide +kernel
theorem d_Lw_law_989 : decode code 989 = .ok (.iinc 4 6, 3) := by decide +kernel
theorem d_Lw_law_992 : decode code 992 = .ok (.goto (-969), 3) := by decide +kernel
theorem d_Lw_law_995 : decode code 995 = .ok (.iconst 1, 1) := by decide +kernel
theorem d_Lw_law_996 : decode code 996 = .ok (.ireturn, 1) := by decide +kernel
