theorem dL_752 : decode YL.2.1 752 = .ok (.aload_n 0, 1) := by decide +kernel
theorem dL_753 : decode YL.2.1 753 = .ok (.iload_n 3, 1) := by decide +kernel
theorem dL_754 : decode YL.2.1 754 = .ok (.iconst 1, 1) := by decide +kernel
theorem dL_755 : decode YL.2.1 755 = .ok (.iadd, 1) := by decide +kernel
theorem dL_756 : decode YL.2.1 756 = .ok (.iaload, 1) := by decide +kernel
theorem dL_757 : decode YL.2.1 757 = .ok (.aload_n 0, 1) := by decide +kernel
theorem dL_758 : decode YL.2.1 758 = .ok (.iload_n 3, 1) := by decide +kernel
theorem dL_759 : decode YL.2.1 759 = .ok (.iconst 2, 1) := by decide +kernel
theorem dL_760 : decode YL.2.1 760 = .ok (.iadd, 1) := by decide +kernel
theorem dL_761 : decode YL.2.1 761 = .ok (.iaload, 1) := by decide +kernel
theorem dL_762 : decode YL.2.1 762 = .ok (.aload_n 0, 1) := by decide +kernel
theorem dL_763 : decode YL.2.1 763 = .ok (.iload_n 3, 1) := by decide +kernel
theorem dL_764 : decode YL.2.1 764 = .ok (.iconst 3, 1) := by decide +kernel
theorem dL_765 : decode YL.2.1 765 = .ok (.iadd, 1) := by decide +kernel
theorem dL_766 : decode YL.2.1 766 = .ok (.iaload, 1) := by decide +kernel
theorem dL_767 : decode YL.2.1 767 = .ok (.invokevirtual 72, 3) := by decide +kernel
theorem dL_770 : decode YL.2.1 770 = .ok (.if_icmp .eq 856, 3) := by decide +kernel
theorem dL_773 : decode YL.2.1 773 = .ok (.iconst 0, 1) := by decide +kernel
theorem dL_774 : decode YL.2.1 774 = .ok (.ireturn, 1) := by decide +kernel
theorem dL_775 : decode YL.2.1 775 = .ok (.aload_n 1, 1) := by decide +kernel
theorem dL_776 : decode YL.2.1 776 = .ok (.aload_n 0, 1) := by decide +kernel
theorem dL_777 : decode YL.2.1 777 = .ok (.iload_n 3, 1) := by decide +kernel
theorem dL_778 : decode YL.2.1 778 = .ok (.iconst 1, 1) := by decide +kernel
theorem dL_779 : decode YL.2.1 779 = .ok (.iadd, 1) := by decide +kernel
theorem dL_780 : decode YL.2.1 780 = .ok (.iaload, 1) := by decide +kernel
theorem dL_781 : decode YL.2.1 781 = .ok (.aload_n 0, 1) := by decide +kernel
theorem dL_782 : decode YL.2.1 782 = .ok (.iload_n 3, 1) := by decide +kernel
theorem dL_783 : decode YL.2.1 783 = .ok (.iconst 2, 1) := by decide +kernel
theorem dL_784 : decode YL.2.1 784 = .ok (.iadd, 1) := by decide +kernel
theorem dL_785 : decode YL.2.1 785 = .ok (.iaload, 1) := by decide +kernel
theorem dL_786 : decode YL.2.1 786 = .ok (.invokevirtual 73, 3) := by decide +kernel
theorem dL_789 : decode YL.2.1 789 = .ok (.aload_n 2, 1) := by decide +kernel
theorem dL_790 : decode YL.2.1 790 = .ok (.aload_n 0, 1) := by decide +kernel
theorem dL_791 : decode YL.2.1 791 = .ok (.iload_n 3, 1) := by decide +kernel
theorem dL_792 : decode YL.2.1 792 = .ok (.iconst 1, 1) := by decide +kernel
theorem dL_793 : decode YL.2.1 793 = .ok (.iadd, 1) := by decide +kernel
theorem dL_794 : decode YL.2.1 794 = .ok (.iaload, 1) := by decide +kernel
theorem dL_795 : decode YL.2.1 795 = .ok (.aload_n 0, 1) := by decide +kernel
theorem dL_796 : decode YL.2.1 796 = .ok (.iload_n 3, 1) := by decide +kernel
theorem dL_797 : decode YL.2.1 797 = .ok (.iconst 2, 1) := by decide +kernel
theorem dL_798 : decode YL.2.1 798 = .ok (.iadd, 1) := by decide +kernel
theorem dL_799 : decode YL.2.1 799 = .ok (.iaload, 1) := by decide +kernel
theorem dL_800 : decode YL.2.1 800 = .ok (.invokevirtual 76, 3) := by decide +kernel
theorem dL_803 : decode YL.2.1 803 = .ok (.if_icmp .eq 823, 3) := by decide +kernel
theorem dL_806 : decode YL.2.1 806 = .ok (.iconst 0, 1) := by decide +kernel
theorem dL_807 : decode YL.2.1 807 = .ok (.ireturn, 1) := by decide +kernel
theorem dL_808 : decode YL.2.1 808 = .ok (.aload_n 1, 1) := by decide +kernel
theorem dL_809 : decode YL.2.1 809 = .ok (.aload_n 0, 1) := by decide +kernel
theorem dL_810 : decode YL.2.1 810 = .ok (.iload_n 3, 1) := by decide +kernel
theorem dL_811 : decode YL.2.1 811 = .ok (.iconst 1, 1) := by decide +kernel
theorem dL_812 : decode YL.2.1 812 = .ok (.iadd, 1) := by decide +kernel
theorem dL_813 : decode YL.2.1 813 = .ok (.iaload, 1) := by decide +kernel
theorem dL_814 : decode YL.2.1 814 = .ok (.aload_n 0, 1) := by decide +kernel
theorem dL_815 : decode YL.2.1 815 = .ok (.iload_n 3, 1) := by decide +kernel
theorem dL_816 : decode YL.2.1 816 = .ok (.iconst 2, 1) := by decide +kernel
theorem dL_817 : decode YL.2.1 817 = .ok (.iadd, 1) := by decide +kernel
theorem dL_818 : decode YL.2.1 818 = .ok (.iaload, 1) := by decide +kernel
theorem dL_819 : decode YL.2.1 819 = .ok (.aload_n 0, 1) := by decide +kernel
theorem dL_820 : decode YL.2.1 820 = .ok (.iload_n 3, 1) := by decide +kernel
theorem dL_821 : decode YL.2.1 821 = .ok (.iconst 3, 1) := by decide +kernel
theorem dL_822 : decode YL.2.1 822 = .ok (.iadd, 1) := by decide +kernel
theorem dL_823 : decode YL.2.1 823 = .ok (.iaload, 1) := by decide +kernel
theorem dL_824 : decode YL.2.1 824 = .ok (.aload_n 0, 1) := by decide +kernel
theorem dL_825 : decode YL.2.1 825 = .ok (.iload_n 3, 1) := by decide +kernel
theorem dL_826 : decode YL.2.1 826 = .ok (.iconst 4, 1) := by decide +kernel
theorem dL_827 : decode YL.2.1 827 = .ok (.iadd, 1) := by decide +kernel
theorem dL_828 : decode YL.2.1 828 = .ok (.iaload, 1) := by decide +kernel
theorem dL_829 : decode YL.2.1 829 = .ok (.invokevirtual 77, 3) := by decide +kernel
theorem dL_832 : decode YL.2.1 832 = .ok (.aload_n 2, 1) := by decide +kernel
theorem dL_833 : decode YL.2.1 833 = .ok (.aload_n 0, 1) := by decide +kernel
theorem dL_834 : decode YL.2.1 834 = .ok (.iload_n 3, 1) := by decide +kernel
theorem dL_835 : decode YL.2.1 835 = .ok (.iconst 1, 1) := by decide +kernel
theorem dL_836 : decode YL.2.1 836 = .ok (.iadd, 1) := by decide +kernel
theorem dL_837 : decode YL.2.1 837 = .ok (.iaload, 1) := by decide +kernel
theorem dL_838 : decode YL.2.1 838 = .ok (.aload_n 0, 1) := by decide +kernel
theorem dL_839 : decode YL.2.1 839 = .ok (.iload_n 3, 1) := by decide +kernel
theorem dL_840 : decode YL.2.1 840 = .ok (.iconst 2, 1) := by decide +kernel
theorem dL_841 : decode YL.2.1 841 = .ok (.iadd, 1) := by decide +kernel
theorem dL_842 : decode YL.2.1 842 = .ok (.iaload, 1) := by decide +kernel
theorem dL_843 : decode YL.2.1 843 = .ok (.aload_n 0, 1) := by decide +kernel
theorem dL_844 : decode YL.2.1 844 = .ok (.iload_n 3, 1) := by decide +kernel
theorem dL_845 : decode YL.2.1 845 = .ok (.iconst 3, 1) := by decide +kernel
theorem dL_846 : decode YL.2.1 846 = .ok (.iadd, 1) := by decide +kernel
theorem dL_847 : decode YL.2.1 847 = .ok (.iaload, 1) := by decide +kernel
theorem dL_848 : decode YL.2.1 848 = .ok (.aload_n 0, 1) := by decide +kernel
theorem dL_849 : decode YL.2.1 849 = .ok (.iload_n 3, 1) := by decide +kernel
theorem dL_850 : decode YL.2.1 850 = .ok (.iconst 4, 1) := by decide +kernel
theorem dL_851 : decode YL.2.1 851 = .ok (.iadd, 1) := by decide +kernel
theorem dL_852 : decode YL.2.1 852 = .ok (.iaload, 1) := by decide +kernel
theorem dL_853 : decode YL.2.1 853 = .ok (.invokevirtual 80, 3) := by decide +kernel
theorem dL_856 : decode YL.2.1 856 = .ok (.if_icmp .eq 770, 3) := by decide +kernel
theorem dL_859 : decode YL.2.1 859 = .ok (.iconst 0, 1) := by decide +kernel
theorem dL_860 : decode YL.2.1 860 = .ok (.ireturn, 1) := by decide +kernel
theorem dL_861 : decode YL.2.1 861 = .ok (.aload_n 1, 1) := by decide +kernel
theorem dL_862 : decode YL.2.1 862 = .ok (.aload_n 0, 1) := by decide +kernel
theorem dL_863 : decode YL.2.1 863 = .ok (.iload_n 3, 1) := by decide +kernel
theorem dL_864 : decode YL.2.1 864 = .ok (.iconst 1, 1) := by decide +kernel
theorem dL_865 : decode YL.2.1 865 = .ok (.iadd, 1) := by decide +kernel
theorem dL_866 : decode YL.2.1 866 = .ok (.iaload, 1) := by decide +kernel
theorem dL_867 : decode YL.2.1 867 = .ok (.aload_n 0, 1) := by decide +kernel
theorem dL_868 : decode YL.2.1 868 = .ok (.iload_n 3, 1) := by decide +kernel
theorem dL_869 : decode YL.2.1 869 = .ok (.iconst 2, 1) := by decide +kernel
theorem dL_870 : decode YL.2.1 870 = .ok (.iadd, 1) := by decide +kernel
theorem dL_871 : decode YL.2.1 871 = .ok (.iaload, 1) := by decide +kernel
theorem dL_872 : decode YL.2.1 872 = .ok (.ifCond .eq 7, 3) := by decide +kernel
theorem dL_875 : decode YL.2.1 875 = .ok (.iconst 1, 1) := by decide +kernel
theorem dL_876 : decode YL.2.1 876 = .ok (.goto 4, 3) := by decide +kernel
theorem dL_879 : decode YL.2.1 879 = .ok (.iconst 0, 1) := by decide +kernel
theorem dL_880 : decode YL.2.1 880 = .ok (.invokevirtual 81, 3) := by decide +kernel
theorem dL_883 : decode YL.2.1 883 = .ok (.aload_n 2, 1) := by decide +kernel
theorem dL_884 : decode YL.2.1 884 = .ok (.aload_n 0, 1) := by decide +kernel
theorem dL_885 : decode YL.2.1 885 = .ok (.iload_n 3, 1) := by decide +kernel
theorem dL_886 : decode YL.2.1 886 = .ok (.iconst 1, 1) := by decide +kernel
theorem dL_887 : decode YL.2.1 887 = .ok (.iadd, 1) := by decide +kernel
theorem dL_888 : decode YL.2.1 888 = .ok (.iaload, 1) := by decide +kernel
theorem dL_889 : decode YL.2.1 889 = .ok (.aload_n 0, 1) := by decide +kernel
theorem dL_890 : decode YL.2.1 890 = .ok (.iload_n 3, 1) := by decide +kernel
theorem dL_891 : decode YL.2.1 891 = .ok (.iconst 2, 1) := by decide +kernel
theorem dL_892 : decode YL.2.1 892 = .ok (.iadd, 1) := by decide +kernel
theorem dL_893 : decode YL.2.1 893 = .ok (.iaload, 1) := by decide +kernel
theorem dL_894 : decode YL.2.1 894 = .ok (.ifCond .eq 7, 3) := by decide +kernel
theorem dL_897 : decode YL.2.1 897 = .ok (.iconst 1, 1) := by decide +kernel
theorem dL_898 : decode YL.2.1 898 = .ok (.goto 4, 3) := by decide +kernel
theorem dL_901 : decode YL.2.1 901 = .ok (.iconst 0, 1) := by decide +kernel
theorem dL_902 : decode YL.2.1 902 = .ok (.invokevirtual 85, 3) := by decide +kernel
theorem dL_905 : decode YL.2.1 905 = .ok (.if_icmp .eq 721, 3) := by decide +kernel
theorem dL_908 : decode YL.2.1 908 = .ok (.iconst 0, 1) := by decide +kernel
theorem dL_909 : decode YL.2.1 909 = .ok (.ireturn, 1) := by decide +kernel
theorem dL_910 : decode YL.2.1 910 = .ok (.aload_n 1, 1) := by decide +kernel
theorem dL_911 : decode YL.2.1 911 = .ok (.aload_n 0, 1) := by decide +kernel
theorem dL_912 : decode YL.2.1 912 = .ok (.iload_n 3, 1) := by decide +kernel
theorem dL_913 : decode YL.2.1 913 = .ok (.iconst 1, 1) := by decide +kernel
theorem dL_914 : decode YL.2.1 914 = .ok (.iadd, 1) := by decide +kernel
theorem dL_915 : decode YL.2.1 915 = .ok (.iaload, 1) := by decide +kernel
theorem dL_916 : decode YL.2.1 916 = .ok (.aload_n 0, 1) := by decide +kernel
theorem dL_917 : decode YL.2.1 917 = .ok (.iload_n 3, 1) := by decide +kernel
theorem dL_918 : decode YL.2.1 918 = .ok (.iconst 2, 1) := by decide +kernel
theorem dL_919 : decode YL.2.1 919 = .ok (.iadd, 1) := by decide +kernel
theorem dL_920 : decode YL.2.1 920 = .ok (.iaload, 1) := by decide +kernel
theorem dL_921 : decode YL.2.1 921 = .ok (.aload_n 0, 1) := by decide +kernel
theorem dL_922 : decode YL.2.1 922 = .ok (.iload_n 3, 1) := by decide +kernel
theorem dL_923 : decode YL.2.1 923 = .ok (.iconst 3, 1) := by decide +kernel
theorem dL_924 : decode YL.2.1 924 = .ok (.iadd, 1) := by decide +kernel
theorem dL_925 : decode YL.2.1 925 = .ok (.iaload, 1) := by decide +kernel
theorem dL_926 : decode YL.2.1 926 = .ok (.invokevirtual 86, 3) := by decide +kernel
theorem dL_929 : decode YL.2.1 929 = .ok (.aload_n 2, 1) := by decide +kernel
theorem dL_930 : decode YL.2.1 930 = .ok (.aload_n 0, 1) := by decide +kernel
theorem dL_931 : decode YL.2.1 931 = .ok (.iload_n 3, 1) := by decide +kernel
theorem dL_932 : decode YL.2.1 932 = .ok (.iconst 1, 1) := by decide +kernel
theorem dL_933 : decode YL.2.1 933 = .ok (.iadd, 1) := by decide +kernel
theorem dL_934 : decode YL.2.1 934 = .ok (.iaload, 1) := by decide +kernel
theorem dL_935 : decode YL.2.1 935 = .ok (.aload_n 0, 1) := by decide +kernel
theorem dL_936 : decode YL.2.1 936 = .ok (.iload_n 3, 1) := by decide +kernel
theorem dL_937 : decode YL.2.1 937 = .ok (.iconst 2, 1) := by decide +kernel
theorem dL_938 : decode YL.2.1 938 = .ok (.iadd, 1) := by decide +kernel
theorem dL_939 : decode YL.2.1 939 = .ok (.iaload, 1) := by decide +kernel
theorem dL_940 : decode YL.2.1 940 = .ok (.aload_n 0, 1) := by decide +kernel
theorem dL_941 : decode YL.2.1 941 = .ok (.iload_n 3, 1) := by decide +kernel
theorem dL_942 : decode YL.2.1 942 = .ok (.iconst 3, 1) := by decide +kernel
theorem dL_943 : decode YL.2.1 943 = .ok (.iadd, 1) := by decide +kernel
theorem dL_944 : decode YL.2.1 944 = .ok (.iaload, 1) := by decide +kernel
theorem dL_945 : decode YL.2.1 945 = .ok (.invokevirtual 89, 3) := by decide +kernel
theorem dL_948 : decode YL.2.1 948 = .ok (.if_icmp .eq 678, 3) := by decide +kernel
theorem dL_951 : decode YL.2.1 951 = .ok (.iconst 0, 1) := by decide +kernel
theorem dL_952 : decode YL.2.1 952 = .ok (.ireturn, 1) := by decide +kernel
theorem dL_953 : decode YL.2.1 953 = .ok (.aload_n 1, 1) := by decide +kernel
theorem dL_954 : decode YL.2.1 954 = .ok (.aload_n 0, 1) := by decide +kernel
theorem dL_955 : decode YL.2.1 955 = .ok (.iload_n 3, 1) := by decide +kernel
theorem dL_956 : decode YL.2.1 956 = .ok (.iconst 1, 1) := by decide +kernel
theorem dL_957 : decode YL.2.1 957 = .ok (.iadd, 1) := by decide +kernel
theorem dL_958 : decode YL.2.1 958 = .ok (.iaload, 1) := by decide +kernel
theorem dL_959 : decode YL.2.1 959 = .ok (.aload_n 0, 1) := by decide +kernel
theorem dL_960 : decode YL.2.1 960 = .ok (.iload_n 3, 1) := by decide +kernel
theorem dL_961 : decode YL.2.1 961 = .ok (.iconst 2, 1) := by decide +kernel
theorem dL_962 : decode YL.2.1 962 = .ok (.iadd, 1) := by decide +kernel
theorem dL_963 : decode YL.2.1 963 = .ok (.iaload, 1) := by decide +kernel
theorem dL_964 : decode YL.2.1 964 = .ok (.aload_n 0, 1) := by decide +kernel
theorem dL_965 : decode YL.2.1 965 = .ok (.iload_n 3, 1) := by decide +kernel
theorem dL_966 : decode YL.2.1 966 = .ok (.iconst 3, 1) := by decide +kernel
theorem dL_967 : decode YL.2.1 967 = .ok (.iadd, 1) := by decide +kernel
theorem dL_968 : decode YL.2.1 968 = .ok (.iaload, 1) := by decide +kernel
theorem dL_969 : decode YL.2.1 969 = .ok (.invokevirtual 90, 3) := by decide +kernel
theorem dL_972 : decode YL.2.1 972 = .ok (.aload_n 2, 1) := by decide +kernel
theorem dL_973 : decode YL.2.1 973 = .ok (.aload_n 0, 1) := by decide +kernel
theorem dL_974 : decode YL.2.1 974 = .ok (.iload_n 3, 1) := by decide +kernel
theorem dL_975 : decode YL.2.1 975 = .ok (.iconst 1, 1) := by decide +kernel
theorem dL_976 : decode YL.2.1 976 = .ok (.iadd, 1) := by decide +kernel
theorem dL_977 : decode YL.2.1 977 = .ok (.iaload, 1) := by decide +kernel
theorem dL_978 : decode YL.2.1 978 = .ok (.aload_n 0, 1) := by decide +kernel
theorem dL_979 : decode YL.2.1 979 = .ok (.iload_n 3, 1) := by decide +kernel
theorem dL_980 : decode YL.2.1 980 = .ok (.iconst 2, 1) := by decide +kernel
theorem dL_981 : decode YL.2.1 981 = .ok (.iadd, 1) := by decide +kernel
theorem dL_982 : decode YL.2.1 982 = .ok (.iaload, 1) := by decide +kernel
theorem dL_983 : decode YL.2.1 983 = .ok (.aload_n 0, 1) := by decide +kernel
theorem dL_984 : decode YL.2.1 984 = .ok (.iload_n 3, 1) := by decide +kernel
theorem dL_985 : decode YL.2.1 985 = .ok (.iconst 3, 1) := by decide +kernel
theorem dL_986 : decode YL.2.1 986 = .ok (.iadd, 1) := by decide +kernel
theorem dL_987 : decode YL.2.1 987 = .ok (.iaload, 1) := by decide +kernel
theorem dL_988 : decode YL.2.1 988 = .ok (.invokevirtual 93, 3) := by decide +kernel
theorem dL_991 : decode YL.2.1 991 = .ok (.if_icmp .eq 635, 3) := by decide +kernel
theorem dL_994 : decode YL.2.1 994 = .ok (.iconst 0, 1) := by decide +kernel
theorem dL_995 : decode YL.2.1 995 = .ok (.ireturn, 1) := by decide +kernel
theorem dL_996 : decode YL.2.1 996 = .ok (.aload_n 1, 1) := by decide +kernel
theorem dL_997 : decode YL.2.1 997 = .ok (.aload_n 0, 1) := by decide +kernel
theorem dL_998 : decode YL.2.1 998 = .ok (.iload_n 3, 1) := by decide +kernel
theorem dL_999 : decode YL.2.1 999 = .ok (.iconst 1, 1) := by decide +kernel
theorem dL_1000 : decode YL.2.1 1000 = .ok (.iadd, 1) := by decide +kernel
theorem dL_1001 : decode YL.2.1 1001 = .ok (.iaload, 1) := by decide +kernel
theorem dL_1002 : decode YL.2.1 1002 = .ok (.aload_n 0, 1) := by decide +kernel
theorem dL_1003 : decode YL.2.1 1003 = .ok (.iload_n 3, 1) := by decide +kernel
theorem dL_1004 : decode YL.2.1 1004 = .ok (.iconst 2, 1) := by decide +kernel
theorem dL_1005 : decode YL.2.1 1005 = .ok (.iadd, 1) := by decide +kernel
theorem dL_1006 : decode YL.2.1 1006 = .ok (.iaload, 1) := by decide +kernel
theorem dL_1007 : decode YL.2.1 1007 = .ok (.aload_n 0, 1) := by decide +kernel
theorem dL_1008 : decode YL.2.1 1008 = .ok (.iload_n 3, 1) := by decide +kernel
theorem dL_1009 : decode YL.2.1 1009 = .ok (.iconst 3, 1) := by decide +kernel
theorem dL_1010 : decode YL.2.1 1010 = .ok (.iadd, 1) := by decide +kernel
theorem dL_1011 : decode YL.2.1 1011 = .ok (.iaload, 1) := by decide +kernel
theorem dL_1012 : decode YL.2.1 1012 = .ok (.aload_n 0, 1) := by decide +kernel
theorem dL_1013 : decode YL.2.1 1013 = .ok (.iload_n 3, 1) := by decide +kernel
theorem dL_1014 : decode YL.2.1 1014 = .ok (.iconst 4, 1) := by decide +kernel
theorem dL_1015 : decode YL.2.1 1015 = .ok (.iadd, 1) := by decide +kernel
theorem dL_1016 : decode YL.2.1 1016 = .ok (.iaload, 1) := by decide +kernel
theorem dL_1017 : decode YL.2.1 1017 = .ok (.invokevirtual 94, 3) := by decide +kernel
theorem dL_1020 : decode YL.2.1 1020 = .ok (.aload_n 2, 1) := by decide +kernel
theorem dL_1021 : decode YL.2.1 1021 = .ok (.aload_n 0, 1) := by decide +kernel
theorem dL_1022 : decode YL.2.1 1022 = .ok (.iload_n 3, 1) := by decide +kernel
theorem dL_1023 : decode YL.2.1 1023 = .ok (.iconst 1, 1) := by decide +kernel
theorem dL_1024 : decode YL.2.1 1024 = .ok (.iadd, 1) := by decide +kernel
theorem dL_1025 : decode YL.2.1 1025 = .ok (.iaload, 1) := by decide +kernel
theorem dL_1026 : decode YL.2.1 1026 = .ok (.aload_n 0, 1) := by decide +kernel
theorem dL_1027 : decode YL.2.1 1027 = .ok (.iload_n 3, 1) := by decide +kernel
theorem dL_1028 : decode YL.2.1 1028 = .ok (.iconst 2, 1) := by decide +kernel
theorem dL_1029 : decode YL.2.1 1029 = .ok (.iadd, 1) := by decide +kernel
theorem dL_1030 : decode YL.2.1 1030 = .ok (.iaload, 1) := by decide +kernel
theorem dL_1031 : decode YL.2.1 1031 = .ok (.aload_n 0, 1) := by decide +kernel
theorem dL_1032 : decode YL.2.1 1032 = .ok (.iload_n 3, 1) := by decide +kernel
theorem dL_1033 : decode YL.2.1 1033 = .ok (.iconst 3, 1) := by decide +kernel
theorem dL_1034 : decode YL.2.1 1034 = .ok (.iadd, 1) := by decide +kernel
theorem dL_1035 : decode YL.2.1 1035 = .ok (.iaload, 1) := by decide +kernel
theorem dL_1036 : decode YL.2.1 1036 = .ok (.aload_n 0, 1) := by decide +kernel
theorem dL_1037 : decode YL.2.1 1037 = .ok (.iload_n 3, 1) := by decide +kernel
theorem dL_1038 : decode YL.2.1 1038 = .ok (.iconst 4, 1) := by decide +kernel
theorem dL_1039 : decode YL.2.1 1039 = .ok (.iadd, 1) := by decide +kernel
theorem dL_1040 : decode YL.2.1 1040 = .ok (.iaload, 1) := by decide +kernel
theorem dL_1041 : decode YL.2.1 1041 = .ok (.invokevirtual 97, 3) := by decide +kernel
theorem dL_1044 : decode YL.2.1 1044 = .ok (.if_icmp .eq 582, 3) := by decide +kernel
theorem dL_1047 : decode YL.2.1 1047 = .ok (.iconst 0, 1) := by decide +kernel
theorem dL_1048 : decode YL.2.1 1048 = .ok (.ireturn, 1) := by decide +kernel
theorem dL_1049 : decode YL.2.1 1049 = .ok (.aload_n 1, 1) := by decide +kernel
