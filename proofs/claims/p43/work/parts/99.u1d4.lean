/-! decode rows of the law, 4 -/
theorem dL_law_694 : decode cL_law 694 = .ok (.goto 538, 3) := bo_167 (by decide +kernel)
theorem dL_law_697 : decode cL_law 697 = .ok (.aload_n 1, 1) := bo_43 (by decide +kernel)
theorem dL_law_698 : decode cL_law 698 = .ok (.aload_n 0, 1) := bo_42 (by decide +kernel)
theorem dL_law_699 : decode cL_law 699 = .ok (.iload_n 3, 1) := bo_29 (by decide +kernel)
theorem dL_law_700 : decode cL_law 700 = .ok (.iconst 1, 1) := bo_4 (by decide +kernel)
theorem dL_law_701 : decode cL_law 701 = .ok (.iadd, 1) := bo_96 (by decide +kernel)
theorem dL_law_702 : decode cL_law 702 = .ok (.iaload, 1) := bo_46 (by decide +kernel)
theorem dL_law_703 : decode cL_law 703 = .ok (.aload_n 0, 1) := bo_42 (by decide +kernel)
theorem dL_law_704 : decode cL_law 704 = .ok (.iload_n 3, 1) := bo_29 (by decide +kernel)
theorem dL_law_705 : decode cL_law 705 = .ok (.iconst 2, 1) := bo_5 (by decide +kernel)
theorem dL_law_706 : decode cL_law 706 = .ok (.iadd, 1) := bo_96 (by decide +kernel)
theorem dL_law_707 : decode cL_law 707 = .ok (.iaload, 1) := bo_46 (by decide +kernel)
theorem dL_law_708 : decode cL_law 708 = .ok (.invokevirtual 85, 3) := bo_182 (by decide +kernel)
theorem dL_law_711 : decode cL_law 711 = .ok (.pop, 1) := bo_87 (by decide +kernel)
theorem dL_law_712 : decode cL_law 712 = .ok (.aload_n 2, 1) := bo_44 (by decide +kernel)
theorem dL_law_713 : decode cL_law 713 = .ok (.aload_n 0, 1) := bo_42 (by decide +kernel)
theorem dL_law_714 : decode cL_law 714 = .ok (.iload_n 3, 1) := bo_29 (by decide +kernel)
theorem dL_law_715 : decode cL_law 715 = .ok (.iconst 1, 1) := bo_4 (by decide +kernel)
theorem dL_law_716 : decode cL_law 716 = .ok (.iadd, 1) := bo_96 (by decide +kernel)
theorem dL_law_717 : decode cL_law 717 = .ok (.iaload, 1) := bo_46 (by decide +kernel)
theorem dL_law_718 : decode cL_law 718 = .ok (.aload_n 0, 1) := bo_42 (by decide +kernel)
theorem dL_law_719 : decode cL_law 719 = .ok (.iload_n 3, 1) := bo_29 (by decide +kernel)
theorem dL_law_720 : decode cL_law 720 = .ok (.iconst 2, 1) := bo_5 (by decide +kernel)
theorem dL_law_721 : decode cL_law 721 = .ok (.iadd, 1) := bo_96 (by decide +kernel)
theorem dL_law_722 : decode cL_law 722 = .ok (.iaload, 1) := bo_46 (by decide +kernel)
theorem dL_law_723 : decode cL_law 723 = .ok (.invokevirtual 88, 3) := bo_182 (by decide +kernel)
theorem dL_law_726 : decode cL_law 726 = .ok (.pop, 1) := bo_87 (by decide +kernel)
theorem dL_law_727 : decode cL_law 727 = .ok (.goto 505, 3) := bo_167 (by decide +kernel)
theorem dL_law_730 : decode cL_law 730 = .ok (.aload_n 1, 1) := bo_43 (by decide +kernel)
theorem dL_law_731 : decode cL_law 731 = .ok (.aload_n 0, 1) := bo_42 (by decide +kernel)
theorem dL_law_732 : decode cL_law 732 = .ok (.iload_n 3, 1) := bo_29 (by decide +kernel)
theorem dL_law_733 : decode cL_law 733 = .ok (.iconst 1, 1) := bo_4 (by decide +kernel)
theorem dL_law_734 : decode cL_law 734 = .ok (.iadd, 1) := bo_96 (by decide +kernel)
theorem dL_law_735 : decode cL_law 735 = .ok (.iaload, 1) := bo_46 (by decide +kernel)
theorem dL_law_736 : decode cL_law 736 = .ok (.invokevirtual 89, 3) := bo_182 (by decide +kernel)
theorem dL_law_739 : decode cL_law 739 = .ok (.pop, 1) := bo_87 (by decide +kernel)
theorem dL_law_740 : decode cL_law 740 = .ok (.aload_n 2, 1) := bo_44 (by decide +kernel)
theorem dL_law_741 : decode cL_law 741 = .ok (.aload_n 0, 1) := bo_42 (by decide +kernel)
theorem dL_law_742 : decode cL_law 742 = .ok (.iload_n 3, 1) := bo_29 (by decide +kernel)
theorem dL_law_743 : decode cL_law 743 = .ok (.iconst 1, 1) := bo_4 (by decide +kernel)
theorem dL_law_744 : decode cL_law 744 = .ok (.iadd, 1) := bo_96 (by decide +kernel)
theorem dL_law_745 : decode cL_law 745 = .ok (.iaload, 1) := bo_46 (by decide +kernel)
theorem dL_law_746 : decode cL_law 746 = .ok (.invokevirtual 92, 3) := bo_182 (by decide +kernel)
theorem dL_law_749 : decode cL_law 749 = .ok (.pop, 1) := bo_87 (by decide +kernel)
theorem dL_law_750 : decode cL_law 750 = .ok (.goto 482, 3) := bo_167 (by decide +kernel)
theorem dL_law_753 : decode cL_law 753 = .ok (.aload_n 1, 1) := bo_43 (by decide +kernel)
theorem dL_law_754 : decode cL_law 754 = .ok (.invokevirtual 93, 3) := bo_182 (by decide +kernel)
theorem dL_law_757 : decode cL_law 757 = .ok (.pop, 1) := bo_87 (by decide +kernel)
theorem dL_law_758 : decode cL_law 758 = .ok (.aload_n 2, 1) := bo_44 (by decide +kernel)
theorem dL_law_759 : decode cL_law 759 = .ok (.invokevirtual 96, 3) := bo_182 (by decide +kernel)
theorem dL_law_762 : decode cL_law 762 = .ok (.pop, 1) := bo_87 (by decide +kernel)
theorem dL_law_763 : decode cL_law 763 = .ok (.goto 469, 3) := bo_167 (by decide +kernel)
theorem dL_law_766 : decode cL_law 766 = .ok (.aload_n 1, 1) := bo_43 (by decide +kernel)
theorem dL_law_767 : decode cL_law 767 = .ok (.aload_n 0, 1) := bo_42 (by decide +kernel)
theorem dL_law_768 : decode cL_law 768 = .ok (.iload_n 3, 1) := bo_29 (by decide +kernel)
theorem dL_law_769 : decode cL_law 769 = .ok (.iconst 1, 1) := bo_4 (by decide +kernel)
theorem dL_law_770 : decode cL_law 770 = .ok (.iadd, 1) := bo_96 (by decide +kernel)
theorem dL_law_771 : decode cL_law 771 = .ok (.iaload, 1) := bo_46 (by decide +kernel)
theorem dL_law_772 : decode cL_law 772 = .ok (.invokevirtual 97, 3) := bo_182 (by decide +kernel)
theorem dL_law_775 : decode cL_law 775 = .ok (.pop, 1) := bo_87 (by decide +kernel)
theorem dL_law_776 : decode cL_law 776 = .ok (.aload_n 2, 1) := bo_44 (by decide +kernel)
theorem dL_law_777 : decode cL_law 777 = .ok (.aload_n 0, 1) := bo_42 (by decide +kernel)
theorem dL_law_778 : decode cL_law 778 = .ok (.iload_n 3, 1) := bo_29 (by decide +kernel)
theorem dL_law_779 : decode cL_law 779 = .ok (.iconst 1, 1) := bo_4 (by decide +kernel)
theorem dL_law_780 : decode cL_law 780 = .ok (.iadd, 1) := bo_96 (by decide +kernel)
theorem dL_law_781 : decode cL_law 781 = .ok (.iaload, 1) := bo_46 (by decide +kernel)
theorem dL_law_782 : decode cL_law 782 = .ok (.invokevirtual 100, 3) := bo_182 (by decide +kernel)
theorem dL_law_785 : decode cL_law 785 = .ok (.pop, 1) := bo_87 (by decide +kernel)
theorem dL_law_786 : decode cL_law 786 = .ok (.goto 446, 3) := bo_167 (by decide +kernel)
theorem dL_law_789 : decode cL_law 789 = .ok (.aload_n 1, 1) := bo_43 (by decide +kernel)
theorem dL_law_790 : decode cL_law 790 = .ok (.aload_n 0, 1) := bo_42 (by decide +kernel)
theorem dL_law_791 : decode cL_law 791 = .ok (.iload_n 3, 1) := bo_29 (by decide +kernel)
theorem dL_law_792 : decode cL_law 792 = .ok (.iconst 1, 1) := bo_4 (by decide +kernel)
theorem dL_law_793 : decode cL_law 793 = .ok (.iadd, 1) := bo_96 (by decide +kernel)
theorem dL_law_794 : decode cL_law 794 = .ok (.iaload, 1) := bo_46 (by decide +kernel)
theorem dL_law_795 : decode cL_law 795 = .ok (.invokevirtual 101, 3) := bo_182 (by decide +kernel)
theorem dL_law_798 : decode cL_law 798 = .ok (.pop, 1) := bo_87 (by decide +kernel)
theorem dL_law_799 : decode cL_law 799 = .ok (.aload_n 2, 1) := bo_44 (by decide +kernel)
theorem dL_law_800 : decode cL_law 800 = .ok (.aload_n 0, 1) := bo_42 (by decide +kernel)
theorem dL_law_801 : decode cL_law 801 = .ok (.iload_n 3, 1) := bo_29 (by decide +kernel)
theorem dL_law_802 : decode cL_law 802 = .ok (.iconst 1, 1) := bo_4 (by decide +kernel)
theorem dL_law_803 : decode cL_law 803 = .ok (.iadd, 1) := bo_96 (by decide +kernel)
theorem dL_law_804 : decode cL_law 804 = .ok (.iaload, 1) := bo_46 (by decide +kernel)
theorem dL_law_805 : decode cL_law 805 = .ok (.invokevirtual 104, 3) := bo_182 (by decide +kernel)
theorem dL_law_808 : decode cL_law 808 = .ok (.pop, 1) := bo_87 (by decide +kernel)
theorem dL_law_809 : decode cL_law 809 = .ok (.goto 423, 3) := bo_167 (by decide +kernel)
theorem dL_law_812 : decode cL_law 812 = .ok (.aload_n 1, 1) := bo_43 (by decide +kernel)
theorem dL_law_813 : decode cL_law 813 = .ok (.invokevirtual 105, 3) := bo_182 (by decide +kernel)
theorem dL_law_816 : decode cL_law 816 = .ok (.pop, 1) := bo_87 (by decide +kernel)
theorem dL_law_817 : decode cL_law 817 = .ok (.aload_n 2, 1) := bo_44 (by decide +kernel)
theorem dL_law_818 : decode cL_law 818 = .ok (.invokevirtual 108, 3) := bo_182 (by decide +kernel)
theorem dL_law_821 : decode cL_law 821 = .ok (.pop, 1) := bo_87 (by decide +kernel)
theorem dL_law_822 : decode cL_law 822 = .ok (.goto 410, 3) := bo_167 (by decide +kernel)
theorem dL_law_825 : decode cL_law 825 = .ok (.aload_n 1, 1) := bo_43 (by decide +kernel)
theorem dL_law_826 : decode cL_law 826 = .ok (.aload_n 0, 1) := bo_42 (by decide +kernel)
theorem dL_law_827 : decode cL_law 827 = .ok (.iload_n 3, 1) := bo_29 (by decide +kernel)
theorem dL_law_828 : decode cL_law 828 = .ok (.iconst 1, 1) := bo_4 (by decide +kernel)
theorem dL_law_829 : decode cL_law 829 = .ok (.iadd, 1) := bo_96 (by decide +kernel)
theorem dL_law_830 : decode cL_law 830 = .ok (.iaload, 1) := bo_46 (by decide +kernel)
theorem dL_law_831 : decode cL_law 831 = .ok (.aload_n 0, 1) := bo_42 (by decide +kernel)
/-! decode rows of the law, 5 -/
theorem dL_law_832 : decode cL_law 832 = .ok (.iload_n 3, 1) := bo_29 (by decide +kernel)
theorem dL_law_833 : decode cL_law 833 = .ok (.iconst 2, 1) := bo_5 (by decide +kernel)
theorem dL_law_834 : decode cL_law 834 = .ok (.iadd, 1) := bo_96 (by decide +kernel)
theorem dL_law_835 : decode cL_law 835 = .ok (.iaload, 1) := bo_46 (by decide +kernel)
theorem dL_law_836 : decode cL_law 836 = .ok (.invokevirtual 109, 3) := bo_182 (by decide +kernel)
theorem dL_law_839 : decode cL_law 839 = .ok (.pop, 1) := bo_87 (by decide +kernel)
theorem dL_law_840 : decode cL_law 840 = .ok (.aload_n 2, 1) := bo_44 (by decide +kernel)
theorem dL_law_841 : decode cL_law 841 = .ok (.aload_n 0, 1) := bo_42 (by decide +kernel)
theorem dL_law_842 : decode cL_law 842 = .ok (.iload_n 3, 1) := bo_29 (by decide +kernel)
theorem dL_law_843 : decode cL_law 843 = .ok (.iconst 1, 1) := bo_4 (by decide +kernel)
theorem dL_law_844 : decode cL_law 844 = .ok (.iadd, 1) := bo_96 (by decide +kernel)
theorem dL_law_845 : decode cL_law 845 = .ok (.iaload, 1) := bo_46 (by decide +kernel)
theorem dL_law_846 : decode cL_law 846 = .ok (.aload_n 0, 1) := bo_42 (by decide +kernel)
theorem dL_law_847 : decode cL_law 847 = .ok (.iload_n 3, 1) := bo_29 (by decide +kernel)
theorem dL_law_848 : decode cL_law 848 = .ok (.iconst 2, 1) := bo_5 (by decide +kernel)
theorem dL_law_849 : decode cL_law 849 = .ok (.iadd, 1) := bo_96 (by decide +kernel)
theorem dL_law_850 : decode cL_law 850 = .ok (.iaload, 1) := bo_46 (by decide +kernel)
theorem dL_law_851 : decode cL_law 851 = .ok (.invokevirtual 112, 3) := bo_182 (by decide +kernel)
theorem dL_law_854 : decode cL_law 854 = .ok (.pop, 1) := bo_87 (by decide +kernel)
theorem dL_law_855 : decode cL_law 855 = .ok (.goto 377, 3) := bo_167 (by decide +kernel)
theorem dL_law_858 : decode cL_law 858 = .ok (.aload_n 1, 1) := bo_43 (by decide +kernel)
theorem dL_law_859 : decode cL_law 859 = .ok (.aload_n 0, 1) := bo_42 (by decide +kernel)
theorem dL_law_860 : decode cL_law 860 = .ok (.iload_n 3, 1) := bo_29 (by decide +kernel)
theorem dL_law_861 : decode cL_law 861 = .ok (.iconst 1, 1) := bo_4 (by decide +kernel)
theorem dL_law_862 : decode cL_law 862 = .ok (.iadd, 1) := bo_96 (by decide +kernel)
theorem dL_law_863 : decode cL_law 863 = .ok (.iaload, 1) := bo_46 (by decide +kernel)
theorem dL_law_864 : decode cL_law 864 = .ok (.aload_n 0, 1) := bo_42 (by decide +kernel)
theorem dL_law_865 : decode cL_law 865 = .ok (.iload_n 3, 1) := bo_29 (by decide +kernel)
theorem dL_law_866 : decode cL_law 866 = .ok (.iconst 2, 1) := bo_5 (by decide +kernel)
theorem dL_law_867 : decode cL_law 867 = .ok (.iadd, 1) := bo_96 (by decide +kernel)
theorem dL_law_868 : decode cL_law 868 = .ok (.iaload, 1) := bo_46 (by decide +kernel)
theorem dL_law_869 : decode cL_law 869 = .ok (.invokevirtual 113, 3) := bo_182 (by decide +kernel)
theorem dL_law_872 : decode cL_law 872 = .ok (.pop, 1) := bo_87 (by decide +kernel)
theorem dL_law_873 : decode cL_law 873 = .ok (.aload_n 2, 1) := bo_44 (by decide +kernel)
theorem dL_law_874 : decode cL_law 874 = .ok (.aload_n 0, 1) := bo_42 (by decide +kernel)
theorem dL_law_875 : decode cL_law 875 = .ok (.iload_n 3, 1) := bo_29 (by decide +kernel)
theorem dL_law_876 : decode cL_law 876 = .ok (.iconst 1, 1) := bo_4 (by decide +kernel)
theorem dL_law_877 : decode cL_law 877 = .ok (.iadd, 1) := bo_96 (by decide +kernel)
theorem dL_law_878 : decode cL_law 878 = .ok (.iaload, 1) := bo_46 (by decide +kernel)
theorem dL_law_879 : decode cL_law 879 = .ok (.aload_n 0, 1) := bo_42 (by decide +kernel)
theorem dL_law_880 : decode cL_law 880 = .ok (.iload_n 3, 1) := bo_29 (by decide +kernel)
theorem dL_law_881 : decode cL_law 881 = .ok (.iconst 2, 1) := bo_5 (by decide +kernel)
theorem dL_law_882 : decode cL_law 882 = .ok (.iadd, 1) := bo_96 (by decide +kernel)
theorem dL_law_883 : decode cL_law 883 = .ok (.iaload, 1) := bo_46 (by decide +kernel)
theorem dL_law_884 : decode cL_law 884 = .ok (.invokevirtual 116, 3) := bo_182 (by decide +kernel)
theorem dL_law_887 : decode cL_law 887 = .ok (.pop, 1) := bo_87 (by decide +kernel)
theorem dL_law_888 : decode cL_law 888 = .ok (.goto 344, 3) := bo_167 (by decide +kernel)
theorem dL_law_891 : decode cL_law 891 = .ok (.aload_n 1, 1) := bo_43 (by decide +kernel)
theorem dL_law_892 : decode cL_law 892 = .ok (.invokevirtual 117, 3) := bo_182 (by decide +kernel)
theorem dL_law_895 : decode cL_law 895 = .ok (.pop, 1) := bo_87 (by decide +kernel)
theorem dL_law_896 : decode cL_law 896 = .ok (.aload_n 2, 1) := bo_44 (by decide +kernel)
theorem dL_law_897 : decode cL_law 897 = .ok (.invokevirtual 120, 3) := bo_182 (by decide +kernel)
theorem dL_law_900 : decode cL_law 900 = .ok (.pop, 1) := bo_87 (by decide +kernel)
theorem dL_law_901 : decode cL_law 901 = .ok (.goto 331, 3) := bo_167 (by decide +kernel)
theorem dL_law_904 : decode cL_law 904 = .ok (.aload_n 1, 1) := bo_43 (by decide +kernel)
theorem dL_law_905 : decode cL_law 905 = .ok (.invokevirtual 121, 3) := bo_182 (by decide +kernel)
theorem dL_law_908 : decode cL_law 908 = .ok (.pop, 1) := bo_87 (by decide +kernel)
theorem dL_law_909 : decode cL_law 909 = .ok (.aload_n 2, 1) := bo_44 (by decide +kernel)
theorem dL_law_910 : decode cL_law 910 = .ok (.invokevirtual 124, 3) := bo_182 (by decide +kernel)
theorem dL_law_913 : decode cL_law 913 = .ok (.pop, 1) := bo_87 (by decide +kernel)
theorem dL_law_914 : decode cL_law 914 = .ok (.goto 318, 3) := bo_167 (by decide +kernel)
theorem dL_law_917 : decode cL_law 917 = .ok (.aload_n 1, 1) := bo_43 (by decide +kernel)
theorem dL_law_918 : decode cL_law 918 = .ok (.aload_n 0, 1) := bo_42 (by decide +kernel)
theorem dL_law_919 : decode cL_law 919 = .ok (.iload_n 3, 1) := bo_29 (by decide +kernel)
theorem dL_law_920 : decode cL_law 920 = .ok (.iconst 1, 1) := bo_4 (by decide +kernel)
theorem dL_law_921 : decode cL_law 921 = .ok (.iadd, 1) := bo_96 (by decide +kernel)
theorem dL_law_922 : decode cL_law 922 = .ok (.iaload, 1) := bo_46 (by decide +kernel)
theorem dL_law_923 : decode cL_law 923 = .ok (.invokevirtual 125, 3) := bo_182 (by decide +kernel)
theorem dL_law_926 : decode cL_law 926 = .ok (.pop, 1) := bo_87 (by decide +kernel)
theorem dL_law_927 : decode cL_law 927 = .ok (.aload_n 2, 1) := bo_44 (by decide +kernel)
theorem dL_law_928 : decode cL_law 928 = .ok (.aload_n 0, 1) := bo_42 (by decide +kernel)
theorem dL_law_929 : decode cL_law 929 = .ok (.iload_n 3, 1) := bo_29 (by decide +kernel)
theorem dL_law_930 : decode cL_law 930 = .ok (.iconst 1, 1) := bo_4 (by decide +kernel)
theorem dL_law_931 : decode cL_law 931 = .ok (.iadd, 1) := bo_96 (by decide +kernel)
theorem dL_law_932 : decode cL_law 932 = .ok (.iaload, 1) := bo_46 (by decide +kernel)
theorem dL_law_933 : decode cL_law 933 = .ok (.invokevirtual 128, 3) := bo_182 (by decide +kernel)
theorem dL_law_936 : decode cL_law 936 = .ok (.pop, 1) := bo_87 (by decide +kernel)
theorem dL_law_937 : decode cL_law 937 = .ok (.goto 295, 3) := bo_167 (by decide +kernel)
theorem dL_law_940 : decode cL_law 940 = .ok (.aload_n 1, 1) := bo_43 (by decide +kernel)
theorem dL_law_941 : decode cL_law 941 = .ok (.invokevirtual 129, 3) := bo_182 (by decide +kernel)
theorem dL_law_944 : decode cL_law 944 = .ok (.pop, 1) := bo_87 (by decide +kernel)
theorem dL_law_945 : decode cL_law 945 = .ok (.aload_n 2, 1) := bo_44 (by decide +kernel)
theorem dL_law_946 : decode cL_law 946 = .ok (.invokevirtual 132, 3) := bo_182 (by decide +kernel)
theorem dL_law_949 : decode cL_law 949 = .ok (.pop, 1) := bo_87 (by decide +kernel)
theorem dL_law_950 : decode cL_law 950 = .ok (.goto 282, 3) := bo_167 (by decide +kernel)
theorem dL_law_953 : decode cL_law 953 = .ok (.aload_n 1, 1) := bo_43 (by decide +kernel)
theorem dL_law_954 : decode cL_law 954 = .ok (.invokevirtual 133, 3) := bo_182 (by decide +kernel)
theorem dL_law_957 : decode cL_law 957 = .ok (.pop, 1) := bo_87 (by decide +kernel)
theorem dL_law_958 : decode cL_law 958 = .ok (.aload_n 2, 1) := bo_44 (by decide +kernel)
theorem dL_law_959 : decode cL_law 959 = .ok (.invokevirtual 136, 3) := bo_182 (by decide +kernel)
theorem dL_law_962 : decode cL_law 962 = .ok (.pop, 1) := bo_87 (by decide +kernel)
theorem dL_law_963 : decode cL_law 963 = .ok (.goto 269, 3) := bo_167 (by decide +kernel)
theorem dL_law_966 : decode cL_law 966 = .ok (.aload_n 1, 1) := bo_43 (by decide +kernel)
theorem dL_law_967 : decode cL_law 967 = .ok (.invokevirtual 137, 3) := bo_182 (by decide +kernel)
theorem dL_law_970 : decode cL_law 970 = .ok (.pop, 1) := bo_87 (by decide +kernel)
theorem dL_law_971 : decode cL_law 971 = .ok (.aload_n 2, 1) := bo_44 (by decide +kernel)
theorem dL_law_972 : decode cL_law 972 = .ok (.invokevirtual 140, 3) := bo_182 (by decide +kernel)
theorem dL_law_975 : decode cL_law 975 = .ok (.pop, 1) := bo_87 (by decide +kernel)
theorem dL_law_976 : decode cL_law 976 = .ok (.goto 256, 3) := bo_167 (by decide +kernel)
theorem dL_law_979 : decode cL_law 979 = .ok (.aload_n 1, 1) := bo_43 (by decide +kernel)
/-! decode rows of the law, 6 -/
theorem dL_law_980 : decode cL_law 980 = .ok (.invokevirtual 141, 3) := bo_182 (by decide +kernel)
theorem dL_law_983 : decode cL_law 983 = .ok (.pop, 1) := bo_87 (by decide +kernel)
theorem dL_law_984 : decode cL_law 984 = .ok (.aload_n 2, 1) := bo_44 (by decide +kernel)
theorem dL_law_985 : decode cL_law 985 = .ok (.invokevirtual 144, 3) := bo_182 (by decide +kernel)
theorem dL_law_988 : decode cL_law 988 = .ok (.pop, 1) := bo_87 (by decide +kernel)
theorem dL_law_989 : decode cL_law 989 = .ok (.goto 243, 3) := bo_167 (by decide +kernel)
theorem dL_law_992 : decode cL_law 992 = .ok (.aload_n 1, 1) := bo_43 (by decide +kernel)
theorem dL_law_993 : decode cL_law 993 = .ok (.invokevirtual 145, 3) := bo_182 (by decide +kernel)
theorem dL_law_996 : decode cL_law 996 = .ok (.pop, 1) := bo_87 (by decide +kernel)
theorem dL_law_997 : decode cL_law 997 = .ok (.aload_n 2, 1) := bo_44 (by decide +kernel)
theorem dL_law_998 : decode cL_law 998 = .ok (.invokevirtual 148, 3) := bo_182 (by decide +kernel)
theorem dL_law_1001 : decode cL_law 1001 = .ok (.pop, 1) := bo_87 (by decide +kernel)
theorem dL_law_1002 : decode cL_law 1002 = .ok (.goto 230, 3) := bo_167 (by decide +kernel)
theorem dL_law_1005 : decode cL_law 1005 = .ok (.aload_n 1, 1) := bo_43 (by decide +kernel)
theorem dL_law_1006 : decode cL_law 1006 = .ok (.invokevirtual 149, 3) := bo_182 (by decide +kernel)
theorem dL_law_1009 : decode cL_law 1009 = .ok (.pop, 1) := bo_87 (by decide +kernel)
theorem dL_law_1010 : decode cL_law 1010 = .ok (.aload_n 2, 1) := bo_44 (by decide +kernel)
theorem dL_law_1011 : decode cL_law 1011 = .ok (.invokevirtual 152, 3) := bo_182 (by decide +kernel)
theorem dL_law_1014 : decode cL_law 1014 = .ok (.pop, 1) := bo_87 (by decide +kernel)
theorem dL_law_1015 : decode cL_law 1015 = .ok (.goto 217, 3) := bo_167 (by decide +kernel)
theorem dL_law_1018 : decode cL_law 1018 = .ok (.aload_n 1, 1) := bo_43 (by decide +kernel)
theorem dL_law_1019 : decode cL_law 1019 = .ok (.aload_n 0, 1) := bo_42 (by decide +kernel)
theorem dL_law_1020 : decode cL_law 1020 = .ok (.iload_n 3, 1) := bo_29 (by decide +kernel)
theorem dL_law_1021 : decode cL_law 1021 = .ok (.iconst 1, 1) := bo_4 (by decide +kernel)
theorem dL_law_1022 : decode cL_law 1022 = .ok (.iadd, 1) := bo_96 (by decide +kernel)
theorem dL_law_1023 : decode cL_law 1023 = .ok (.iaload, 1) := bo_46 (by decide +kernel)
theorem dL_law_1024 : decode cL_law 1024 = .ok (.invokevirtual 153, 3) := bo_182 (by decide +kernel)
theorem dL_law_1027 : decode cL_law 1027 = .ok (.pop, 1) := bo_87 (by decide +kernel)
theorem dL_law_1028 : decode cL_law 1028 = .ok (.aload_n 2, 1) := bo_44 (by decide +kernel)
theorem dL_law_1029 : decode cL_law 1029 = .ok (.aload_n 0, 1) := bo_42 (by decide +kernel)
theorem dL_law_1030 : decode cL_law 1030 = .ok (.iload_n 3, 1) := bo_29 (by decide +kernel)
theorem dL_law_1031 : decode cL_law 1031 = .ok (.iconst 1, 1) := bo_4 (by decide +kernel)
theorem dL_law_1032 : decode cL_law 1032 = .ok (.iadd, 1) := bo_96 (by decide +kernel)
theorem dL_law_1033 : decode cL_law 1033 = .ok (.iaload, 1) := bo_46 (by decide +kernel)
theorem dL_law_1034 : decode cL_law 1034 = .ok (.invokevirtual 156, 3) := bo_182 (by decide +kernel)
theorem dL_law_1037 : decode cL_law 1037 = .ok (.pop, 1) := bo_87 (by decide +kernel)
theorem dL_law_1038 : decode cL_law 1038 = .ok (.goto 194, 3) := bo_167 (by decide +kernel)
theorem dL_law_1041 : decode cL_law 1041 = .ok (.aload_n 1, 1) := bo_43 (by decide +kernel)
theorem dL_law_1042 : decode cL_law 1042 = .ok (.aload_n 0, 1) := bo_42 (by decide +kernel)
theorem dL_law_1043 : decode cL_law 1043 = .ok (.iload_n 3, 1) := bo_29 (by decide +kernel)
theorem dL_law_1044 : decode cL_law 1044 = .ok (.iconst 1, 1) := bo_4 (by decide +kernel)
theorem dL_law_1045 : decode cL_law 1045 = .ok (.iadd, 1) := bo_96 (by decide +kernel)
theorem dL_law_1046 : decode cL_law 1046 = .ok (.iaload, 1) := bo_46 (by decide +kernel)
theorem dL_law_1047 : decode cL_law 1047 = .ok (.invokevirtual 157, 3) := bo_182 (by decide +kernel)
theorem dL_law_1050 : decode cL_law 1050 = .ok (.pop, 1) := bo_87 (by decide +kernel)
theorem dL_law_1051 : decode cL_law 1051 = .ok (.aload_n 2, 1) := bo_44 (by decide +kernel)
theorem dL_law_1052 : decode cL_law 1052 = .ok (.aload_n 0, 1) := bo_42 (by decide +kernel)
theorem dL_law_1053 : decode cL_law 1053 = .ok (.iload_n 3, 1) := bo_29 (by decide +kernel)
theorem dL_law_1054 : decode cL_law 1054 = .ok (.iconst 1, 1) := bo_4 (by decide +kernel)
theorem dL_law_1055 : decode cL_law 1055 = .ok (.iadd, 1) := bo_96 (by decide +kernel)
theorem dL_law_1056 : decode cL_law 1056 = .ok (.iaload, 1) := bo_46 (by decide +kernel)
theorem dL_law_1057 : decode cL_law 1057 = .ok (.invokevirtual 160, 3) := bo_182 (by decide +kernel)
theorem dL_law_1060 : decode cL_law 1060 = .ok (.pop, 1) := bo_87 (by decide +kernel)
theorem dL_law_1061 : decode cL_law 1061 = .ok (.goto 171, 3) := bo_167 (by decide +kernel)
theorem dL_law_1064 : decode cL_law 1064 = .ok (.aload_n 1, 1) := bo_43 (by decide +kernel)
theorem dL_law_1065 : decode cL_law 1065 = .ok (.aload_n 0, 1) := bo_42 (by decide +kernel)
theorem dL_law_1066 : decode cL_law 1066 = .ok (.iload_n 3, 1) := bo_29 (by decide +kernel)
theorem dL_law_1067 : decode cL_law 1067 = .ok (.iconst 1, 1) := bo_4 (by decide +kernel)
theorem dL_law_1068 : decode cL_law 1068 = .ok (.iadd, 1) := bo_96 (by decide +kernel)
theorem dL_law_1069 : decode cL_law 1069 = .ok (.iaload, 1) := bo_46 (by decide +kernel)
theorem dL_law_1070 : decode cL_law 1070 = .ok (.aload_n 0, 1) := bo_42 (by decide +kernel)
theorem dL_law_1071 : decode cL_law 1071 = .ok (.iload_n 3, 1) := bo_29 (by decide +kernel)
theorem dL_law_1072 : decode cL_law 1072 = .ok (.iconst 2, 1) := bo_5 (by decide +kernel)
theorem dL_law_1073 : decode cL_law 1073 = .ok (.iadd, 1) := bo_96 (by decide +kernel)
theorem dL_law_1074 : decode cL_law 1074 = .ok (.iaload, 1) := bo_46 (by decide +kernel)
theorem dL_law_1075 : decode cL_law 1075 = .ok (.invokevirtual 161, 3) := bo_182 (by decide +kernel)
theorem dL_law_1078 : decode cL_law 1078 = .ok (.pop, 1) := bo_87 (by decide +kernel)
theorem dL_law_1079 : decode cL_law 1079 = .ok (.aload_n 2, 1) := bo_44 (by decide +kernel)
theorem dL_law_1080 : decode cL_law 1080 = .ok (.aload_n 0, 1) := bo_42 (by decide +kernel)
theorem dL_law_1081 : decode cL_law 1081 = .ok (.iload_n 3, 1) := bo_29 (by decide +kernel)
theorem dL_law_1082 : decode cL_law 1082 = .ok (.iconst 1, 1) := bo_4 (by decide +kernel)
theorem dL_law_1083 : decode cL_law 1083 = .ok (.iadd, 1) := bo_96 (by decide +kernel)
theorem dL_law_1084 : decode cL_law 1084 = .ok (.iaload, 1) := bo_46 (by decide +kernel)
theorem dL_law_1085 : decode cL_law 1085 = .ok (.aload_n 0, 1) := bo_42 (by decide +kernel)
theorem dL_law_1086 : decode cL_law 1086 = .ok (.iload_n 3, 1) := bo_29 (by decide +kernel)
theorem dL_law_1087 : decode cL_law 1087 = .ok (.iconst 2, 1) := bo_5 (by decide +kernel)
theorem dL_law_1088 : decode cL_law 1088 = .ok (.iadd, 1) := bo_96 (by decide +kernel)
theorem dL_law_1089 : decode cL_law 1089 = .ok (.iaload, 1) := bo_46 (by decide +kernel)
theorem dL_law_1090 : decode cL_law 1090 = .ok (.invokevirtual 164, 3) := bo_182 (by decide +kernel)
theorem dL_law_1093 : decode cL_law 1093 = .ok (.pop, 1) := bo_87 (by decide +kernel)
theorem dL_law_1094 : decode cL_law 1094 = .ok (.goto 138, 3) := bo_167 (by decide +kernel)
theorem dL_law_1097 : decode cL_law 1097 = .ok (.aload_n 1, 1) := bo_43 (by decide +kernel)
theorem dL_law_1098 : decode cL_law 1098 = .ok (.aload_n 0, 1) := bo_42 (by decide +kernel)
theorem dL_law_1099 : decode cL_law 1099 = .ok (.iload_n 3, 1) := bo_29 (by decide +kernel)
theorem dL_law_1100 : decode cL_law 1100 = .ok (.iconst 1, 1) := bo_4 (by decide +kernel)
theorem dL_law_1101 : decode cL_law 1101 = .ok (.iadd, 1) := bo_96 (by decide +kernel)
theorem dL_law_1102 : decode cL_law 1102 = .ok (.iaload, 1) := bo_46 (by decide +kernel)
theorem dL_law_1103 : decode cL_law 1103 = .ok (.aload_n 0, 1) := bo_42 (by decide +kernel)
theorem dL_law_1104 : decode cL_law 1104 = .ok (.iload_n 3, 1) := bo_29 (by decide +kernel)
theorem dL_law_1105 : decode cL_law 1105 = .ok (.iconst 2, 1) := bo_5 (by decide +kernel)
theorem dL_law_1106 : decode cL_law 1106 = .ok (.iadd, 1) := bo_96 (by decide +kernel)
theorem dL_law_1107 : decode cL_law 1107 = .ok (.iaload, 1) := bo_46 (by decide +kernel)
theorem dL_law_1108 : decode cL_law 1108 = .ok (.aload_n 0, 1) := bo_42 (by decide +kernel)
theorem dL_law_1109 : decode cL_law 1109 = .ok (.iload_n 3, 1) := bo_29 (by decide +kernel)
theorem dL_law_1110 : decode cL_law 1110 = .ok (.iconst 3, 1) := bo_6 (by decide +kernel)
theorem dL_law_1111 : decode cL_law 1111 = .ok (.iadd, 1) := bo_96 (by decide +kernel)
theorem dL_law_1112 : decode cL_law 1112 = .ok (.iaload, 1) := bo_46 (by decide +kernel)
theorem dL_law_1113 : decode cL_law 1113 = .ok (.invokevirtual 165, 3) := bo_182 (by decide +kernel)
theorem dL_law_1116 : decode cL_law 1116 = .ok (.pop, 1) := bo_87 (by decide +kernel)
theorem dL_law_1117 : decode cL_law 1117 = .ok (.aload_n 2, 1) := bo_44 (by decide +kernel)
/-! decode rows of the law, 7 -/
theorem dL_law_1118 : decode cL_law 1118 = .ok (.aload_n 0, 1) := bo_42 (by decide +kernel)
theorem dL_law_1119 : decode cL_law 1119 = .ok (.iload_n 3, 1) := bo_29 (by decide +kernel)
theorem dL_law_1120 : decode cL_law 1120 = .ok (.iconst 1, 1) := bo_4 (by decide +kernel)
theorem dL_law_1121 : decode cL_law 1121 = .ok (.iadd, 1) := bo_96 (by decide +kernel)
theorem dL_law_1122 : decode cL_law 1122 = .ok (.iaload, 1) := bo_46 (by decide +kernel)
theorem dL_law_1123 : decode cL_law 1123 = .ok (.aload_n 0, 1) := bo_42 (by decide +kernel)
theorem dL_law_1124 : decode cL_law 1124 = .ok (.iload_n 3, 1) := bo_29 (by decide +kernel)
theorem dL_law_1125 : decode cL_law 1125 = .ok (.iconst 2, 1) := bo_5 (by decide +kernel)
theorem dL_law_1126 : decode cL_law 1126 = .ok (.iadd, 1) := bo_96 (by decide +kernel)
theorem dL_law_1127 : decode cL_law 1127 = .ok (.iaload, 1) := bo_46 (by decide +kernel)
theorem dL_law_1128 : decode cL_law 1128 = .ok (.aload_n 0, 1) := bo_42 (by decide +kernel)
theorem dL_law_1129 : decode cL_law 1129 = .ok (.iload_n 3, 1) := bo_29 (by decide +kernel)
theorem dL_law_1130 : decode cL_law 1130 = .ok (.iconst 3, 1) := bo_6 (by decide +kernel)
theorem dL_law_1131 : decode cL_law 1131 = .ok (.iadd, 1) := bo_96 (by decide +kernel)
theorem dL_law_1132 : decode cL_law 1132 = .ok (.iaload, 1) := bo_46 (by decide +kernel)
theorem dL_law_1133 : decode cL_law 1133 = .ok (.invokevirtual 168, 3) := bo_182 (by decide +kernel)
theorem dL_law_1136 : decode cL_law 1136 = .ok (.pop, 1) := bo_87 (by decide +kernel)
theorem dL_law_1137 : decode cL_law 1137 = .ok (.goto 95, 3) := bo_167 (by decide +kernel)
theorem dL_law_1140 : decode cL_law 1140 = .ok (.aload_n 1, 1) := bo_43 (by decide +kernel)
theorem dL_law_1141 : decode cL_law 1141 = .ok (.aload_n 0, 1) := bo_42 (by decide +kernel)
theorem dL_law_1142 : decode cL_law 1142 = .ok (.iload_n 3, 1) := bo_29 (by decide +kernel)
theorem dL_law_1143 : decode cL_law 1143 = .ok (.iconst 1, 1) := bo_4 (by decide +kernel)
theorem dL_law_1144 : decode cL_law 1144 = .ok (.iadd, 1) := bo_96 (by decide +kernel)
theorem dL_law_1145 : decode cL_law 1145 = .ok (.iaload, 1) := bo_46 (by decide +kernel)
theorem dL_law_1146 : decode cL_law 1146 = .ok (.aload_n 0, 1) := bo_42 (by decide +kernel)
theorem dL_law_1147 : decode cL_law 1147 = .ok (.iload_n 3, 1) := bo_29 (by decide +kernel)
theorem dL_law_1148 : decode cL_law 1148 = .ok (.iconst 2, 1) := bo_5 (by decide +kernel)
theorem dL_law_1149 : decode cL_law 1149 = .ok (.iadd, 1) := bo_96 (by decide +kernel)
theorem dL_law_1150 : decode cL_law 1150 = .ok (.iaload, 1) := bo_46 (by decide +kernel)
theorem dL_law_1151 : decode cL_law 1151 = .ok (.invokevirtual 169, 3) := bo_182 (by decide +kernel)
theorem dL_law_1154 : decode cL_law 1154 = .ok (.pop2, 1) := bo_88 (by decide +kernel)
theorem dL_law_1155 : decode cL_law 1155 = .ok (.aload_n 2, 1) := bo_44 (by decide +kernel)
theorem dL_law_1156 : decode cL_law 1156 = .ok (.aload_n 0, 1) := bo_42 (by decide +kernel)
theorem dL_law_1157 : decode cL_law 1157 = .ok (.iload_n 3, 1) := bo_29 (by decide +kernel)
theorem dL_law_1158 : decode cL_law 1158 = .ok (.iconst 1, 1) := bo_4 (by decide +kernel)
theorem dL_law_1159 : decode cL_law 1159 = .ok (.iadd, 1) := bo_96 (by decide +kernel)
theorem dL_law_1160 : decode cL_law 1160 = .ok (.iaload, 1) := bo_46 (by decide +kernel)
theorem dL_law_1161 : decode cL_law 1161 = .ok (.aload_n 0, 1) := bo_42 (by decide +kernel)
theorem dL_law_1162 : decode cL_law 1162 = .ok (.iload_n 3, 1) := bo_29 (by decide +kernel)
theorem dL_law_1163 : decode cL_law 1163 = .ok (.iconst 2, 1) := bo_5 (by decide +kernel)
theorem dL_law_1164 : decode cL_law 1164 = .ok (.iadd, 1) := bo_96 (by decide +kernel)
theorem dL_law_1165 : decode cL_law 1165 = .ok (.iaload, 1) := bo_46 (by decide +kernel)
theorem dL_law_1166 : decode cL_law 1166 = .ok (.invokevirtual 173, 3) := bo_182 (by decide +kernel)
theorem dL_law_1169 : decode cL_law 1169 = .ok (.pop2, 1) := bo_88 (by decide +kernel)
theorem dL_law_1170 : decode cL_law 1170 = .ok (.goto 62, 3) := bo_167 (by decide +kernel)
theorem dL_law_1173 : decode cL_law 1173 = .ok (.aload_n 1, 1) := bo_43 (by decide +kernel)
theorem dL_law_1174 : decode cL_law 1174 = .ok (.aload_n 0, 1) := bo_42 (by decide +kernel)
theorem dL_law_1175 : decode cL_law 1175 = .ok (.iload_n 3, 1) := bo_29 (by decide +kernel)
theorem dL_law_1176 : decode cL_law 1176 = .ok (.iconst 1, 1) := bo_4 (by decide +kernel)
theorem dL_law_1177 : decode cL_law 1177 = .ok (.iadd, 1) := bo_96 (by decide +kernel)
theorem dL_law_1178 : decode cL_law 1178 = .ok (.iaload, 1) := bo_46 (by decide +kernel)
theorem dL_law_1179 : decode cL_law 1179 = .ok (.aload_n 0, 1) := bo_42 (by decide +kernel)
theorem dL_law_1180 : decode cL_law 1180 = .ok (.iload_n 3, 1) := bo_29 (by decide +kernel)
theorem dL_law_1181 : decode cL_law 1181 = .ok (.iconst 2, 1) := bo_5 (by decide +kernel)
theorem dL_law_1182 : decode cL_law 1182 = .ok (.iadd, 1) := bo_96 (by decide +kernel)
theorem dL_law_1183 : decode cL_law 1183 = .ok (.iaload, 1) := bo_46 (by decide +kernel)
theorem dL_law_1184 : decode cL_law 1184 = .ok (.invokevirtual 174, 3) := bo_182 (by decide +kernel)
theorem dL_law_1187 : decode cL_law 1187 = .ok (.pop, 1) := bo_87 (by decide +kernel)
theorem dL_law_1188 : decode cL_law 1188 = .ok (.aload_n 2, 1) := bo_44 (by decide +kernel)
theorem dL_law_1189 : decode cL_law 1189 = .ok (.aload_n 0, 1) := bo_42 (by decide +kernel)
theorem dL_law_1190 : decode cL_law 1190 = .ok (.iload_n 3, 1) := bo_29 (by decide +kernel)
theorem dL_law_1191 : decode cL_law 1191 = .ok (.iconst 1, 1) := bo_4 (by decide +kernel)
theorem dL_law_1192 : decode cL_law 1192 = .ok (.iadd, 1) := bo_96 (by decide +kernel)
theorem dL_law_1193 : decode cL_law 1193 = .ok (.iaload, 1) := bo_46 (by decide +kernel)
theorem dL_law_1194 : decode cL_law 1194 = .ok (.aload_n 0, 1) := bo_42 (by decide +kernel)
theorem dL_law_1195 : decode cL_law 1195 = .ok (.iload_n 3, 1) := bo_29 (by decide +kernel)
theorem dL_law_1196 : decode cL_law 1196 = .ok (.iconst 2, 1) := bo_5 (by decide +kernel)
theorem dL_law_1197 : decode cL_law 1197 = .ok (.iadd, 1) := bo_96 (by decide +kernel)
theorem dL_law_1198 : decode cL_law 1198 = .ok (.iaload, 1) := bo_46 (by decide +kernel)
theorem dL_law_1199 : decode cL_law 1199 = .ok (.invokevirtual 177, 3) := bo_182 (by decide +kernel)
theorem dL_law_1202 : decode cL_law 1202 = .ok (.pop, 1) := bo_87 (by decide +kernel)
theorem dL_law_1203 : decode cL_law 1203 = .ok (.goto 29, 3) := bo_167 (by decide +kernel)
theorem dL_law_1206 : decode cL_law 1206 = .ok (.aload_n 1, 1) := bo_43 (by decide +kernel)
theorem dL_law_1207 : decode cL_law 1207 = .ok (.invokevirtual 178, 3) := bo_182 (by decide +kernel)
theorem dL_law_1210 : decode cL_law 1210 = .ok (.pop, 1) := bo_87 (by decide +kernel)
theorem dL_law_1211 : decode cL_law 1211 = .ok (.aload_n 2, 1) := bo_44 (by decide +kernel)
theorem dL_law_1212 : decode cL_law 1212 = .ok (.invokevirtual 181, 3) := bo_182 (by decide +kernel)
theorem dL_law_1215 : decode cL_law 1215 = .ok (.pop, 1) := bo_87 (by decide +kernel)
theorem dL_law_1216 : decode cL_law 1216 = .ok (.goto 16, 3) := bo_167 (by decide +kernel)
theorem dL_law_1219 : decode cL_law 1219 = .ok (.aload_n 1, 1) := bo_43 (by decide +kernel)
theorem dL_law_1220 : decode cL_law 1220 = .ok (.invokevirtual 182, 3) := bo_182 (by decide +kernel)
theorem dL_law_1223 : decode cL_law 1223 = .ok (.aload_n 2, 1) := bo_44 (by decide +kernel)
theorem dL_law_1224 : decode cL_law 1224 = .ok (.invokevirtual 185, 3) := bo_182 (by decide +kernel)
theorem dL_law_1227 : decode cL_law 1227 = .ok (.if_icmp .eq 5, 3) := bo_159 (by decide +kernel)
theorem dL_law_1230 : decode cL_law 1230 = .ok (.iconst 0, 1) := bo_3 (by decide +kernel)
theorem dL_law_1231 : decode cL_law 1231 = .ok (.ireturn, 1) := bo_172 (by decide +kernel)
theorem dL_law_1232 : decode cL_law 1232 = .ok (.iinc 3 4, 3) := bo_132 (by decide +kernel)
theorem dL_law_1235 : decode cL_law 1235 = .ok (.goto (-1217), 3) := bo_167 (by decide +kernel)
theorem dL_law_1238 : decode cL_law 1238 = .ok (.iconst 1, 1) := bo_4 (by decide +kernel)
theorem dL_law_1239 : decode cL_law 1239 = .ok (.ireturn, 1) := bo_172 (by decide +kernel)
/-! THE LAW: its rows, over the flat world -/
abbrev mLw : Me := (yL_law, cL_law, 4, ret)
def lwX (G : GG) (b L : Nat) (xs : Nat → Int32) (p : Program) (s : State) (mi : MethodId) (meth : Method) (c : Code) : Prop := zC mLw (gD G) G.2.2.2.1 G.2.2.2.2 (gA G s.heap.size) p s mi #[Value.ref b] meth c ∧ gS G (gA G s.heap.size) s s.heap ∧ va_X b L xs s s.heap ∧ b < s.heap.size ∧ ¬ gA G s.heap.size b ∧ L ≤ 2048 ∧ ∀ k, k < NN → s.heap.size ≤ G.1 k
abbrev lwl (G : GG) (b i : Nat) : List (Nat × Value) := [(3, .int (nI i)), (2, .ref (G.1 57)), (1, .ref (G.1 0)), (0, .ref b)]
def Lz (G : GG) (b : Nat) (p : Program) (l : Launch) (e : Env) (s : State) (mi : MethodId) (below : List Frame) (meth : Method) (c : Code) (Q : State → Prop) (i pc : Nat) (st : List Value) (M : Mm) : Prop := Mz mLw room_1 (gD G) (gA G s.heap.size) p l e s mi #[Value.ref b] below meth c Q pc (lwl G b i) st (wl G M) 77 4084
theorem catr {G : GG} (r : Option Value) : (((r.map (cv G)).toList.map fun v => v.category).sum) ≤ 8 := by
  cases r with
  | none => exact Nat.zero_le _
  | some v => cases v <;> exact Nat.le_of_ble_eq_true rfl
theorem goodIn_tb4 {y : Me} {a b c e : Cond} (h : GoodIn TB (wsM y)) (h1 : a ∈ TB) (h2 : b ∈ TB) (h3 : c ∈ TB) (h4 : e ∈ TB) : GoodIn TB (([a, b, c, e] : List Cond) ++ wsM y) := by
  intro w hw
  rcases List.mem_append.mp hw with hw | hw
  · have hT : w ∈ TB := by
      simp only [List.mem_cons, List.not_mem_nil, or_false] at hw
      rcases hw with e | e | e | e <;> subst e <;> assumption
    exact ⟨hT, good_of_word (TB_good _ hT)⟩
  · exact h w hw
theorem lgc_rf (v : Int64) : lg_cmp v v = 0 := by
  unfold lg_cmp
  rw [if_neg (show ¬ v > v from Int64.lt_irrefl), if_pos rfl]
theorem and63 (v : Int32) : ∃ j : Nat, j < 64 ∧ v &&& nI 63 = nI j := by
  have h1 : (v &&& nI 63).toBitVec.toNat ≤ 63 := by
    rw [Int32.toBitVec_and, BitVec.toNat_and]
    exact Nat.and_le_right
  refine ⟨(v &&& nI 63).toBitVec.toNat, by omega, ?_⟩
  rw [← Int32.toBitVec_inj]
  show _ = (Int32.ofNat _).toBitVec
  rw [Int32.toBitVec_ofNat', BitVec.ofNat_toNat, BitVec.setWidth_eq]
section LWZ
variable {G : GG} {b L : Nat} {xs : Nat → Int32} {p : Program} {l : Launch} {e : Env} {s : State} {mi : MethodId} {below : List Frame} {meth : Method} {c : Code} {Q : State → Prop} {i pc : Nat} {st : List Value} {M : Mm}
theorem lz_ref1 (C : lwX G b L xs p s mi meth c) (hd : decode cL_law pc = .ok (.aload_n 1, 1)) (kk : Lz G b p l e s mi below meth c Q i (pc + 1) (.ref (G.1 0) :: st) M) : Lz G b p l e s mi below meth c Q i pc st M := mz_aload (m := mLw) C.1 2 hd rfl kk
theorem lz_ref2 (C : lwX G b L xs p s mi meth c) (hd : decode cL_law pc = .ok (.aload_n 2, 1)) (kk : Lz G b p l e s mi below meth c Q i (pc + 1) (.ref (G.1 57) :: st) M) : Lz G b p l e s mi below meth c Q i pc st M := mz_aload (m := mLw) C.1 1 hd rfl kk
theorem lz_arg (C : lwX G b L xs p s mi meth c) (d : Nat) {z : Int} (h0 : decode cL_law pc = .ok (.aload_n 0, 1)) (h1 : decode cL_law (pc + 1) = .ok (.iload_n 3, 1)) (h2 : decode cL_law (pc + 1 + 1) = .ok (.iconst z, 1)) (h3 : decode cL_law (pc + 1 + 1 + 1) = .ok (.iadd, 1)) (h4 : decode cL_law (pc + 1 + 1 + 1 + 1) = .ok (.iaload, 1)) (hz : Int32.ofInt z = nI d) (hi : i + d < L) (kk : Lz G b p l e s mi below meth c Q i (pc + 5) (.int (xs (i + d)) :: st) M) : Lz G b p l e s mi below meth c Q i pc st M := by
  intro H locs arr hP hD hS hl
  have hL := C.2.2.2.2.2.1
  refine lv_aload_n C.1.1.1 C.1.1.2.1 h0 rfl (lv_at hl 3 rfl) ?_
  refine lv_iload_n C.1.1.1 C.1.1.2.1 h1 rfl (lv_at hl 0 rfl) ?_
  refine lv_iconst (v := nI d) C.1.1.1 C.1.1.2.1 h2 hz ?_
  refine lv_iadd C.1.1.1 C.1.1.2.1 h3 ?_
  rw [nI_add]
  refine va_sld C.1.1.1 C.1.1.2.1 C.2.2.1 C.2.2.2.1 C.2.2.2.2.1 hS (i := nI (i + d)) (nI_in hi (by omega)) h4 ?_
  rw [nI_clamp (by omega)]
  exact kk H locs arr hP hD hS hl
theorem lz_call (C : lwX G b L xs p s mi meth c) {y : Me} {as st0 : List Value} {r0 idx ci N : Nat} {T : u_T} {fs : List (Option Nat)} {Qx : Po} (hd : decode cL_law pc = .ok (.invokevirtual idx, 3)) (hyV : gCalV y as.length) (hlk : Cond.methodLink "FairTurnsLaw" idx y.1 ∈ TB) (hc : gCl ci y.1.cls T N) (hs : sh r0 = .inr (ci, fs)) (hr : r0 < NN) (has : as.map (cv G) = as) (hst : st0 = as.reverse ++ .ref (G.1 r0) :: st) (hcat : (st.map fun v => v.category).sum ≤ 8) (hcall : Call 60 y (.ref r0 :: as) M Qx) (kk : ∀ M' r, Qx M' r → Lz G b p l e s mi below meth c Q i (pc + 3) ((r.map (cv G)).toList ++ st) M') : Lz G b p l e s mi below meth c Q i pc st0 M := by
  intro H locs arr hP hD hS hl
  obtain ⟨hy, hin, hsel, hn, hml⟩ := hyV
  have he := wl_get G M hr
  rw [hs] at he
  have hts := C.1.1.2.2.2.2.2.1
  have hgS : ∀ U : State, U.heap = H → s.WarmedH U.vm → gP G s.heap.size M U U.heap := fun U hU hW => by
    rw [hU]
    exact ⟨hS.1, hP, va_K.moved hW.alike C.1.2.1, hD, (C.2.1.kept hS.2.1).warm hW⟩
  subst hst
  have hav : (Value.ref (G.1 r0) :: as).toArray = ((Value.ref r0 :: as).map (cv G)).toArray := by
    rw [List.map_cons, has]
    rfl
  have hrun := va_runV (locs := locs) (cells := 77) (slots := 4084) (below := below) (meth := meth) (e := e) (R := room_1) (As := as) (b := G.1 r0) (rest := st) (C := y.1.cls) (own := "FairTurnsLaw") (g := F0 mi pc arr (as.reverse ++ .ref (G.1 r0) :: st)) ⟨C.1.1.1, C.1.1.2.1, C.1.1.2.2.2.1, C.1.1.2.2.2.2.1, hts⟩ (hcall l G s.heap.size)
    (cwV (bytes := y.2.1) (maxL := y.2.2.1) (ret := y.2.2.2) (ws' := TB) as.length hts (goodIn_tb4 (gGood2 hy) hlk hin hsel hy.2.1) rfl rfl rfl ⟨rfl, hy.2.2.1, hy.2.2.2, hn⟩ ⟨Nat.le_of_ble_eq_true rfl, by show 8 + (y.2.2.1 + 11) + 40 * 60 ≤ 84000; omega⟩)
    ⟨gBlind, va_recv C.1.2.1 hP hc.1 he, fun U hU hW => ⟨hav, hgS U hU hW⟩⟩ rfl rfl hl.1 rfl (lv_room hcat) hd ⟨Nat.le_of_ble_eq_true rfl, Nat.le_of_ble_eq_true rfl⟩
  intro Ts hT X
  obtain ⟨v, st₀, t, T', Lc, h0, X', hLc, e1, e2, ⟨⟨r, M', hv, hq, hP'⟩, hz1, hk1⟩, hst⟩ := hrun Ts hT X
  cases hv
  rw [h0] at hz1 hk1
  have hFr' : va_S (gA G s.heap.size) s.heap t.heap (locs ++ Lc) := by
    refine ⟨Nat.le_trans hS.1 hz1, fun q h1 h2 => ?_, fun q hq => ?_⟩
    · rw [hk1 q (Nat.lt_of_lt_of_le h1 hS.1) h2]; exact hS.2.1 q h1 h2
    · rcases List.mem_append.mp hq with h | h
      · exact hS.2.2 q h
      · exact hLc q h
  obtain ⟨t2, a1, b1⟩ := kk M' r hq t.heap (locs ++ Lc) arr hP'.2.1 hP'.2.2.2.1 hFr' hl T' e1 X'
  exact ⟨t2, hst t2 a1, b1⟩
theorem lz_eq (C : lwX G b L xs p s mi meth c) {v : Int32} {off : Int} {st0 : List Value} (tgt : Nat) (hd : decode cL_law pc = .ok (.if_icmp .eq off, 3)) (ht : (pc : Int) + off = (tgt : Int)) (hst : st0 = [.int v, .int v]) (kk : Lz G b p l e s mi below meth c Q i tgt [] M) : Lz G b p l e s mi below meth c Q i pc st0 M := by
  subst hst
  exact fun H locs arr hP hD hS hl => lv_icmp_eq (tgt := tgt) C.1.1.1 C.1.1.2.1 hd ht (fun _ => kk H locs arr hP hD hS hl) (fun q => absurd rfl q)
theorem lz_eql (C : lwX G b L xs p s mi meth c) {v : Int64} {off : Int} {st0 : List Value} (tgt : Nat) (hd : decode cL_law pc = .ok (.lcmp, 1)) (hd2 : decode cL_law (pc + 1) = .ok (.ifCond .eq off, 3)) (ht : ((pc + 1 : Nat) : Int) + off = (tgt : Int)) (hst : st0 = [.long v, .long v]) (kk : Lz G b p l e s mi below meth c Q i tgt [] M) : Lz G b p l e s mi below meth c Q i pc st0 M := by
  subst hst
  intro H locs arr hP hD hS hl
  refine W.lcmp C.1.1.1 C.1.1.2.1 hd ?_
  rw [lgc_rf]
  exact lv_if_eq (tgt := tgt) C.1.1.1 C.1.1.2.1 hd2 ht (fun _ => kk H locs arr hP hD hS hl) (fun q => absurd rfl q)
theorem lz_head (C : lwX G b L xs p s mi meth c) (hi : i ≤ 4096) (ke : Lz G b p l e s mi below meth c Q i 1238 [] M) (kg : i + 4 ≤ L → Lz G b p l e s mi below meth c Q i 26 [] M) : Lz G b p l e s mi below meth c Q i 18 [] M := by
  intro H locs arr hP hD hS hl
  have hL := C.2.2.2.2.2.1
  refine lv_iload_n C.1.1.1 C.1.1.2.1 dL_law_18 rfl (lv_at hl 0 rfl) ?_
  refine lv_aload_n C.1.1.1 C.1.1.2.1 dL_law_19 rfl (lv_at hl 3 rfl) ?_
  refine va_slen C.1.1.1 C.1.1.2.1 C.2.2.1 C.2.2.2.1 C.2.2.2.2.1 hS dL_law_20 ?_
  refine lv_iconst (v := nI 4) C.1.1.1 C.1.1.2.1 dL_law_21 ki_4 ?_
  refine lv_isub C.1.1.1 C.1.1.2.1 dL_law_22 ?_
  refine lv_icmp_gt (tgt := 1238) C.1.1.1 C.1.1.2.1 dL_law_23 (by decide) (fun _ => ke H locs arr hP hD hS hl) (fun q => kg ?_ H locs arr hP hD hS hl)
  have h2 := Int32.le_iff_toInt_le.mp (Int32.not_lt.mp q)
  rw [show Int32.ofNat L = nI L from rfl, Int32.toInt_sub, nI_toInt (by omega), nI_toInt (by omega), nI_toInt (by omega), Int.bmod_def] at h2
  split at h2 <;> omega
def lwO : List Int := [184, 207, 230, 273, 306, 329, 352, 375, 408, 421, 454, 477, 510, 553, 586, 609, 632, 665, 698, 721, 734, 757, 780, 793, 826, 859, 872, 885, 908, 921, 934, 947, 960, 973, 986, 1009, 1032, 1065, 1108, 1141, 1174, 1187]
def lwT (j : Nat) : Nat := ((32 : Int) + lwO.getD j 0).toNat
theorem lwT_ok : ∀ j, j < 42 → (lwO.toArray)[j]? = some (lwO.getD j 0) ∧ ((32 : Nat) : Int) + lwO.getD j 0 = ((lwT j : Nat) : Int) := by decide +kernel
theorem dLt : decode cL_law 32 = .ok (.tableswitch 1200 0 41 lwO.toArray, 184) := dL_law_32
theorem lz_key (C : lwX G b L xs p s mi meth c) (hi : i + 4 ≤ L) (kt : ∀ j, j < 42 → Lz G b p l e s mi below meth c Q i (lwT j) [] M) (ko : Lz G b p l e s mi below meth c Q i 1232 [] M) : Lz G b p l e s mi below meth c Q i 26 [] M := by
  intro H locs arr hP hD hS hl
  have hL := C.2.2.2.2.2.1
  refine lv_aload_n C.1.1.1 C.1.1.2.1 dL_law_26 rfl (lv_at hl 3 rfl) ?_
  refine lv_iload_n C.1.1.1 C.1.1.2.1 dL_law_27 rfl (lv_at hl 0 rfl) ?_
  refine va_sld C.1.1.1 C.1.1.2.1 C.2.2.1 C.2.2.2.1 C.2.2.2.2.1 hS (i := nI i) (nI_in (show i < L by omega) (by omega)) dL_law_28 ?_
  refine lv_bipush (v := nI 63) C.1.1.1 C.1.1.2.1 dL_law_29 (by decide +kernel) ?_
  refine lv_iand C.1.1.1 C.1.1.2.1 dL_law_31 ?_
  obtain ⟨j, hj, ej⟩ := and63 (xs (nI i).toNatClampNeg)
  rw [ej]
  have ev : (nI j).toInt = (j : Int) := nI_toInt (by omega)
  by_cases hj2 : j < 42
  · obtain ⟨o1, o2⟩ := lwT_ok j hj2
    refine lv_tableIn (off := lwO.getD j 0) (tgt := lwT j) C.1.1.1 C.1.1.2.1 dLt (by rw [ev]; omega) (by rw [ev]; omega) ?_ o2 (kt j hj2 H locs arr hP hD hS hl)
    rw [ev, show ((j : Int) - 0).toNat = j by omega]
    exact o1
  · exact lv_tableOut (tgt := 1232) C.1.1.1 C.1.1.2.1 dLt (Or.inr (by rw [ev]; omega)) (by decide) (ko H locs arr hP hD hS hl)
theorem lz_next (C : lwX G b L xs p s mi meth c) (kk : Lz G b p l e s mi below meth c Q (i + 4) 18 [] M) : Lz G b p l e s mi below meth c Q i 1232 [] M :=
  mz_iinc (m := mLw) (lt := lwl G b (i + 4)) C.1 (nI (i + 4)) 0 dL_law_1232 rfl (by rw [show Int32.ofInt 4 = nI 4 from ki_4, nI_add]) (Nat.le_of_ble_eq_true rfl) rfl (mz_goto (m := mLw) C.1 18 dL_law_1235 (by decide) kk)
theorem lz_exit (C : lwX G b L xs p s mi meth c) : Lz G b p l e s mi below meth c (lw_Z below #[Value.ref b] s) i 1238 [] M := by
  intro H locs arr hP hD hS hl
  have hge : ∀ q, gA G s.heap.size q → s.heap.size ≤ q := by
    intro q hq
    rcases hq with ⟨k, hk, rfl⟩ | hq
    · exact C.2.2.2.2.2.2 k hk
    · exact hq
  refine lv_iconst (v := 1) C.1.1.1 C.1.1.2.1 dL_law_1238 (by decide) ?_
  refine va_forget (fun q hq => hge _ (hS.2.2 q hq)) ?_
  refine W.widen (k := 600000) (n := 7302250) (Nat.le_of_ble_eq_true rfl) (Nat.le_of_ble_eq_true rfl) ?_
  exact lw_ret C.1.1.1 C.1.1.2.1 C.1.1.2.2.1 C.1.1.2.2.2.2.2.2 dL_law_1239
theorem lz_pop (C : lwX G b L xs p s mi meth c) {v : Int32} {st0 : List Value} (hd : decode cL_law pc = .ok (.pop, 1)) (hst : st0 = [.int v]) (kk : Lz G b p l e s mi below meth c Q i (pc + 1) [] M) : Lz G b p l e s mi below meth c Q i pc st0 M := by
  subst hst
  exact fun H locs arr hP hD hS hl => lv_pop C.1.1.1 C.1.1.2.1 hd rfl (kk H locs arr hP hD hS hl)
theorem lz_popl (C : lwX G b L xs p s mi meth c) {v : Int64} {st0 : List Value} (hd : decode cL_law pc = .ok (.pop2, 1)) (hst : st0 = [.long v]) (kk : Lz G b p l e s mi below meth c Q i (pc + 1) [] M) : Lz G b p l e s mi below meth c Q i pc st0 M := by
  subst hst
  exact fun H locs arr hP hD hS hl => lv_pop2_2 C.1.1.1 C.1.1.2.1 hd rfl (kk H locs arr hP hD hS hl)
theorem lz_end (C : lwX G b L xs p s mi meth c) {off : Int} (hd : decode cL_law pc = .ok (.goto off, 3)) (ht : (pc : Int) + off = ((1232 : Nat) : Int)) (kk : Lz G b p l e s mi below meth c Q i 1232 [] M) : Lz G b p l e s mi below meth c Q i pc [] M := mz_goto (m := mLw) C.1 1232 hd ht kk
end LWZ
/-! THE LAW: its calls -/
section LWO
variable {G : GG} {b L : Nat} {xs : Nat → Int32} {p : Program} {l : Launch} {e : Env} {s : State} {mi : MethodId} {below : List Frame} {meth : Method} {c : Code} {Q : State → Prop} {i : Nat} {M : Mm}
/-- comes -/
theorem lw_op0 (C : lwX G b L xs p s mi meth c) (hi : i + 4 ≤ L) (hI : INV M) (kk : ∀ M2, INV M2 → Lz G b p l e s mi below meth c Q i 1232 [] M2) : Lz G b p l e s mi below meth c Q i 216 [] M := by
  refine lz_ref1 C dL_law_216 ?_
  refine lz_arg C 1 dL_law_217 dL_law_218 dL_law_219 dL_law_220 dL_law_221 ki_1 (by omega) ?_
  refine lz_call C (as := [.int (xs (i + 1))]) (r0 := 0) (st := []) dL_law_222 clF_comes ml_Law_13 gc9 rfl (by decide) rfl rfl (Nat.zero_le _) (both_comes (xs (i + 1)) M hI) (fun M1 r1 h1 => ?_)
  obtain ⟨⟨v1, rfl⟩, h1⟩ := h1
  refine lz_pop C (v := v1) dL_law_225 rfl ?_
  refine lz_ref2 C dL_law_226 ?_
  refine lz_arg C 1 dL_law_227 dL_law_228 dL_law_229 dL_law_230 dL_law_231 ki_1 (by omega) ?_
  refine lz_call C (as := [.int (xs (i + 1))]) (r0 := 57) (st := []) dL_law_232 clM_comes ml_Law_17 gc10 rfl (by decide) rfl rfl (Nat.le_of_ble_eq_true rfl) h1 (fun M2 r2 h2 => ?_)
  obtain ⟨⟨v2, hv, rfl⟩, hI2⟩ := h2
  refine lz_pop C (v := v2) dL_law_235 rfl ?_
  exact lz_end C dL_law_236 (by decide) (kk M2 hI2)
/-- goes -/
theorem lw_op1 (C : lwX G b L xs p s mi meth c) (hi : i + 4 ≤ L) (hI : INV M) (kk : ∀ M2, INV M2 → Lz G b p l e s mi below meth c Q i 1232 [] M2) : Lz G b p l e s mi below meth c Q i 239 [] M := by
  refine lz_ref1 C dL_law_239 ?_
  refine lz_arg C 1 dL_law_240 dL_law_241 dL_law_242 dL_law_243 dL_law_244 ki_1 (by omega) ?_
  refine lz_call C (as := [.int (xs (i + 1))]) (r0 := 0) (st := []) dL_law_245 clF_goes ml_Law_18 gc9 rfl (by decide) rfl rfl (Nat.zero_le _) (both_goes (xs (i + 1)) M hI) (fun M1 r1 h1 => ?_)
  obtain ⟨⟨v1, rfl⟩, h1⟩ := h1
  refine lz_pop C (v := v1) dL_law_248 rfl ?_
  refine lz_ref2 C dL_law_249 ?_
  refine lz_arg C 1 dL_law_250 dL_law_251 dL_law_252 dL_law_253 dL_law_254 ki_1 (by omega) ?_
  refine lz_call C (as := [.int (xs (i + 1))]) (r0 := 57) (st := []) dL_law_255 clM_goes ml_Law_21 gc10 rfl (by decide) rfl rfl (Nat.le_of_ble_eq_true rfl) h1 (fun M2 r2 h2 => ?_)
  obtain ⟨⟨v2, hv, rfl⟩, hI2⟩ := h2
  refine lz_pop C (v := v2) dL_law_258 rfl ?_
  exact lz_end C dL_law_259 (by decide) (kk M2 hI2)
/-- past -/
theorem lw_op2 (C : lwX G b L xs p s mi meth c) (hi : i + 4 ≤ L) (hI : INV M) (kk : ∀ M2, INV M2 → Lz G b p l e s mi below meth c Q i 1232 [] M2) : Lz G b p l e s mi below meth c Q i 262 [] M := by
  refine lz_ref1 C dL_law_262 ?_
  refine lz_arg C 1 dL_law_263 dL_law_264 dL_law_265 dL_law_266 dL_law_267 ki_1 (by omega) ?_
  refine lz_arg C 2 dL_law_268 dL_law_269 dL_law_270 dL_law_271 dL_law_272 ki_2 (by omega) ?_
  refine lz_arg C 3 dL_law_273 dL_law_274 dL_law_275 dL_law_276 dL_law_277 ki_3 (by omega) ?_
  refine lz_call C (as := [.int (xs (i + 1)), .int (xs (i + 2)), .int (xs (i + 3))]) (r0 := 0) (st := []) dL_law_278 clF_past ml_Law_22 gc9 rfl (by decide) rfl rfl (Nat.zero_le _) (both_past (xs (i + 1)) (xs (i + 2)) (xs (i + 3)) M hI) (fun M1 r1 h1 => ?_)
  obtain ⟨⟨v1, rfl⟩, h1⟩ := h1
  refine lz_pop C (v := v1) dL_law_281 rfl ?_
  refine lz_ref2 C dL_law_282 ?_
  refine lz_arg C 1 dL_law_283 dL_law_284 dL_law_285 dL_law_286 dL_law_287 ki_1 (by omega) ?_
  refine lz_arg C 2 dL_law_288 dL_law_289 dL_law_290 dL_law_291 dL_law_292 ki_2 (by omega) ?_
  refine lz_arg C 3 dL_law_293 dL_law_294 dL_law_295 dL_law_296 dL_law_297 ki_3 (by omega) ?_
  refine lz_call C (as := [.int (xs (i + 1)), .int (xs (i + 2)), .int (xs (i + 3))]) (r0 := 57) (st := []) dL_law_298 clM_past_ ml_Law_26 gc10 rfl (by decide) rfl rfl (Nat.le_of_ble_eq_true rfl) h1 (fun M2 r2 h2 => ?_)
  obtain ⟨⟨v2, hv, rfl⟩, hI2⟩ := h2
  refine lz_pop C (v := v2) dL_law_301 rfl ?_
  exact lz_end C dL_law_302 (by decide) (kk M2 hI2)
/-- of -/
theorem lw_op3 (C : lwX G b L xs p s mi meth c) (hi : i + 4 ≤ L) (hI : INV M) (kk : ∀ M2, INV M2 → Lz G b p l e s mi below meth c Q i 1232 [] M2) : Lz G b p l e s mi below meth c Q i 305 [] M := by
  refine lz_ref1 C dL_law_305 ?_
  refine lz_arg C 1 dL_law_306 dL_law_307 dL_law_308 dL_law_309 dL_law_310 ki_1 (by omega) ?_
  refine lz_arg C 2 dL_law_311 dL_law_312 dL_law_313 dL_law_314 dL_law_315 ki_2 (by omega) ?_
  refine lz_call C (as := [.int (xs (i + 1)), .int (xs (i + 2))]) (r0 := 0) (st := []) dL_law_316 clF_of ml_Law_27 gc9 rfl (by decide) rfl rfl (Nat.zero_le _) (both_of (xs (i + 1)) (xs (i + 2)) M hI) (fun M1 r1 h1 => ?_)
  obtain ⟨⟨v1, rfl⟩, h1⟩ := h1
  refine lz_pop C (v := v1) dL_law_319 rfl ?_
  refine lz_ref2 C dL_law_320 ?_
  refine lz_arg C 1 dL_law_321 dL_law_322 dL_law_323 dL_law_324 dL_law_325 ki_1 (by omega) ?_
  refine lz_arg C 2 dL_law_326 dL_law_327 dL_law_328 dL_law_329 dL_law_330 ki_2 (by omega) ?_
  refine lz_call C (as := [.int (xs (i + 1)), .int (xs (i + 2))]) (r0 := 57) (st := []) dL_law_331 clM_of ml_Law_31 gc10 rfl (by decide) rfl rfl (Nat.le_of_ble_eq_true rfl) h1 (fun M2 r2 h2 => ?_)
  obtain ⟨⟨v2, hv, rfl⟩, hI2⟩ := h2
  refine lz_pop C (v := v2) dL_law_334 rfl ?_
  exact lz_end C dL_law_335 (by decide) (kk M2 hI2)
/-- neutral -/
theorem lw_op4 (C : lwX G b L xs p s mi meth c) (hi : i + 4 ≤ L) (hI : INV M) (kk : ∀ M2, INV M2 → Lz G b p l e s mi below meth c Q i 1232 [] M2) : Lz G b p l e s mi below meth c Q i 338 [] M := by
  refine lz_ref1 C dL_law_338 ?_
  refine lz_arg C 1 dL_law_339 dL_law_340 dL_law_341 dL_law_342 dL_law_343 ki_1 (by omega) ?_
  refine lz_call C (as := [.int (xs (i + 1))]) (r0 := 0) (st := []) dL_law_344 clF_neutral ml_Law_32 gc9 rfl (by decide) rfl rfl (Nat.zero_le _) (both_neutral (xs (i + 1)) M hI) (fun M1 r1 h1 => ?_)
  obtain ⟨⟨v1, rfl⟩, h1⟩ := h1
  refine lz_pop C (v := v1) dL_law_347 rfl ?_
  refine lz_ref2 C dL_law_348 ?_
  refine lz_arg C 1 dL_law_349 dL_law_350 dL_law_351 dL_law_352 dL_law_353 ki_1 (by omega) ?_
  refine lz_call C (as := [.int (xs (i + 1))]) (r0 := 57) (st := []) dL_law_354 clM_neutral ml_Law_35 gc10 rfl (by decide) rfl rfl (Nat.le_of_ble_eq_true rfl) h1 (fun M2 r2 h2 => ?_)
  obtain ⟨⟨v2, hv, rfl⟩, hI2⟩ := h2
  refine lz_pop C (v := v2) dL_law_357 rfl ?_
  exact lz_end C dL_law_358 (by decide) (kk M2 hI2)
/-- rules -/
theorem lw_op5 (C : lwX G b L xs p s mi meth c) (hi : i + 4 ≤ L) (hI : INV M) (kk : ∀ M2, INV M2 → Lz G b p l e s mi below meth c Q i 1232 [] M2) : Lz G b p l e s mi below meth c Q i 361 [] M := by
  refine lz_ref1 C dL_law_361 ?_
  refine lz_arg C 1 dL_law_362 dL_law_363 dL_law_364 dL_law_365 dL_law_366 ki_1 (by omega) ?_
  refine lz_call C (as := [.int (xs (i + 1))]) (r0 := 0) (st := []) dL_law_367 clF_rules ml_Law_36 gc9 rfl (by decide) rfl rfl (Nat.zero_le _) (both_rules (xs (i + 1)) M hI) (fun M1 r1 h1 => ?_)
  obtain ⟨⟨v1, rfl⟩, h1⟩ := h1
  refine lz_pop C (v := v1) dL_law_370 rfl ?_
  refine lz_ref2 C dL_law_371 ?_
  refine lz_arg C 1 dL_law_372 dL_law_373 dL_law_374 dL_law_375 dL_law_376 ki_1 (by omega) ?_
  refine lz_call C (as := [.int (xs (i + 1))]) (r0 := 57) (st := []) dL_law_377 clM_rules ml_Law_39 gc10 rfl (by decide) rfl rfl (Nat.le_of_ble_eq_true rfl) h1 (fun M2 r2 h2 => ?_)
  obtain ⟨⟨v2, hv, rfl⟩, hI2⟩ := h2
  refine lz_pop C (v := v2) dL_law_380 rfl ?_
  exact lz_end C dL_law_381 (by decide) (kk M2 hI2)
/-- frees -/
theorem lw_op6 (C : lwX G b L xs p s mi meth c) (hi : i + 4 ≤ L) (hI : INV M) (kk : ∀ M2, INV M2 → Lz G b p l e s mi below meth c Q i 1232 [] M2) : Lz G b p l e s mi below meth c Q i 384 [] M := by
  refine lz_ref1 C dL_law_384 ?_
  refine lz_arg C 1 dL_law_385 dL_law_386 dL_law_387 dL_law_388 dL_law_389 ki_1 (by omega) ?_
  refine lz_call C (as := [.int (xs (i + 1))]) (r0 := 0) (st := []) dL_law_390 clF_frees ml_Law_40 gc9 rfl (by decide) rfl rfl (Nat.zero_le _) (both_frees (xs (i + 1)) M hI) (fun M1 r1 h1 => ?_)
  obtain ⟨⟨v1, rfl⟩, h1⟩ := h1
  refine lz_pop C (v := v1) dL_law_393 rfl ?_
  refine lz_ref2 C dL_law_394 ?_
  refine lz_arg C 1 dL_law_395 dL_law_396 dL_law_397 dL_law_398 dL_law_399 ki_1 (by omega) ?_
  refine lz_call C (as := [.int (xs (i + 1))]) (r0 := 57) (st := []) dL_law_400 clM_frees ml_Law_43 gc10 rfl (by decide) rfl rfl (Nat.le_of_ble_eq_true rfl) h1 (fun M2 r2 h2 => ?_)
  obtain ⟨⟨v2, hv, rfl⟩, hI2⟩ := h2
  refine lz_pop C (v := v2) dL_law_403 rfl ?_
  exact lz_end C dL_law_404 (by decide) (kk M2 hI2)
/-- duty -/
theorem lw_op7 (C : lwX G b L xs p s mi meth c) (hi : i + 4 ≤ L) (hI : INV M) (kk : ∀ M2, INV M2 → Lz G b p l e s mi below meth c Q i 1232 [] M2) : Lz G b p l e s mi below meth c Q i 407 [] M := by
  refine lz_ref1 C dL_law_407 ?_
  refine lz_arg C 1 dL_law_408 dL_law_409 dL_law_410 dL_law_411 dL_law_412 ki_1 (by omega) ?_
  refine lz_arg C 2 dL_law_413 dL_law_414 dL_law_415 dL_law_416 dL_law_417 ki_2 (by omega) ?_
  refine lz_call C (as := [.int (xs (i + 1)), .int (xs (i + 2))]) (r0 := 0) (st := []) dL_law_418 clF_duty ml_Law_44 gc9 rfl (by decide) rfl rfl (Nat.zero_le _) (both_duty (xs (i + 1)) (xs (i + 2)) M hI) (fun M1 r1 h1 => ?_)
  obtain ⟨⟨v1, rfl⟩, h1⟩ := h1
  refine lz_pop C (v := v1) dL_law_421 rfl ?_
  refine lz_ref2 C dL_law_422 ?_
  refine lz_arg C 1 dL_law_423 dL_law_424 dL_law_425 dL_law_426 dL_law_427 ki_1 (by omega) ?_
  refine lz_arg C 2 dL_law_428 dL_law_429 dL_law_430 dL_law_431 dL_law_432 ki_2 (by omega) ?_
  refine lz_call C (as := [.int (xs (i + 1)), .int (xs (i + 2))]) (r0 := 57) (st := []) dL_law_433 clM_duty ml_Law_47 gc10 rfl (by decide) rfl rfl (Nat.le_of_ble_eq_true rfl) h1 (fun M2 r2 h2 => ?_)
  obtain ⟨⟨v2, hv, rfl⟩, hI2⟩ := h2
  refine lz_pop C (v := v2) dL_law_436 rfl ?_
  exact lz_end C dL_law_437 (by decide) (kk M2 hI2)
/-- calendar -/
theorem lw_op8 (C : lwX G b L xs p s mi meth c) (hi : i + 4 ≤ L) (hI : INV M) (kk : ∀ M2, INV M2 → Lz G b p l e s mi below meth c Q i 1232 [] M2) : Lz G b p l e s mi below meth c Q i 440 [] M := by
  refine lz_ref1 C dL_law_440 ?_
  refine lz_call C (as := []) (r0 := 0) (st := []) dL_law_441 clF_calendar ml_Law_48 gc9 rfl (by decide) rfl rfl (Nat.zero_le _) (both_calendar M hI) (fun M1 r1 h1 => ?_)
  obtain ⟨⟨v1, rfl⟩, h1⟩ := h1
  refine lz_pop C (v := v1) dL_law_444 rfl ?_
  refine lz_ref2 C dL_law_445 ?_
  refine lz_call C (as := []) (r0 := 57) (st := []) dL_law_446 clM_calendar ml_Law_52 gc10 rfl (by decide) rfl rfl (Nat.le_of_ble_eq_true rfl) h1 (fun M2 r2 h2 => ?_)
  obtain ⟨⟨v2, hv, rfl⟩, hI2⟩ := h2
  refine lz_pop C (v := v2) dL_law_449 rfl ?_
  exact lz_end C dL_law_450 (by decide) (kk M2 hI2)
/-- dutyOf -/
theorem lw_op9 (C : lwX G b L xs p s mi meth c) (hi : i + 4 ≤ L) (hI : INV M) (kk : ∀ M2, INV M2 → Lz G b p l e s mi below meth c Q i 1232 [] M2) : Lz G b p l e s mi below meth c Q i 453 [] M := by
  refine lz_ref1 C dL_law_453 ?_
  refine lz_arg C 1 dL_law_454 dL_law_455 dL_law_456 dL_law_457 dL_law_458 ki_1 (by omega) ?_
  refine lz_arg C 2 dL_law_459 dL_law_460 dL_law_461 dL_law_462 dL_law_463 ki_2 (by omega) ?_
  refine lz_call C (as := [.int (xs (i + 1)), .int (xs (i + 2))]) (r0 := 0) (st := []) dL_law_464 clF_dutyOf ml_Law_53 gc9 rfl (by decide) rfl rfl (Nat.zero_le _) (both_dutyOf (xs (i + 1)) (xs (i + 2)) M hI) (fun M1 r1 h1 => ?_)
  obtain ⟨⟨v1, rfl⟩, h1⟩ := h1
  refine lz_pop C (v := v1) dL_law_467 rfl ?_
  refine lz_ref2 C dL_law_468 ?_
  refine lz_arg C 1 dL_law_469 dL_law_470 dL_law_471 dL_law_472 dL_law_473 ki_1 (by omega) ?_
  refine lz_arg C 2 dL_law_474 dL_law_475 dL_law_476 dL_law_477 dL_law_478 ki_2 (by omega) ?_
  refine lz_call C (as := [.int (xs (i + 1)), .int (xs (i + 2))]) (r0 := 57) (st := []) dL_law_479 clM_dutyOf ml_Law_56 gc10 rfl (by decide) rfl rfl (Nat.le_of_ble_eq_true rfl) h1 (fun M2 r2 h2 => ?_)
  obtain ⟨⟨v2, hv, rfl⟩, hI2⟩ := h2
  refine lz_pop C (v := v2) dL_law_482 rfl ?_
  exact lz_end C dL_law_483 (by decide) (kk M2 hI2)
/-- stands -/
theorem lw_op10 (C : lwX G b L xs p s mi meth c) (hi : i + 4 ≤ L) (hI : INV M) (kk : ∀ M2, INV M2 → Lz G b p l e s mi below meth c Q i 1232 [] M2) : Lz G b p l e s mi below meth c Q i 486 [] M := by
  refine lz_ref1 C dL_law_486 ?_
  refine lz_arg C 1 dL_law_487 dL_law_488 dL_law_489 dL_law_490 dL_law_491 ki_1 (by omega) ?_
  refine lz_call C (as := [.int (xs (i + 1))]) (r0 := 0) (st := []) dL_law_492 clF_stands ml_Law_57 gc9 rfl (by decide) rfl rfl (Nat.zero_le _) (both_stands (xs (i + 1)) M hI) (fun M1 r1 h1 => ?_)
  obtain ⟨⟨v1, rfl⟩, h1⟩ := h1
  refine lz_pop C (v := v1) dL_law_495 rfl ?_
  refine lz_ref2 C dL_law_496 ?_
  refine lz_arg C 1 dL_law_497 dL_law_498 dL_law_499 dL_law_500 dL_law_501 ki_1 (by omega) ?_
  refine lz_call C (as := [.int (xs (i + 1))]) (r0 := 57) (st := []) dL_law_502 clM_stands ml_Law_60 gc10 rfl (by decide) rfl rfl (Nat.le_of_ble_eq_true rfl) h1 (fun M2 r2 h2 => ?_)
  obtain ⟨⟨v2, hv, rfl⟩, hI2⟩ := h2
  refine lz_pop C (v := v2) dL_law_505 rfl ?_
  exact lz_end C dL_law_506 (by decide) (kk M2 hI2)
/-- may -/
theorem lw_op11 (C : lwX G b L xs p s mi meth c) (hi : i + 4 ≤ L) (hI : INV M) (kk : ∀ M2, INV M2 → Lz G b p l e s mi below meth c Q i 1232 [] M2) : Lz G b p l e s mi below meth c Q i 509 [] M := by
  refine lz_ref1 C dL_law_509 ?_
  refine lz_arg C 1 dL_law_510 dL_law_511 dL_law_512 dL_law_513 dL_law_514 ki_1 (by omega) ?_
  refine lz_arg C 2 dL_law_515 dL_law_516 dL_law_517 dL_law_518 dL_law_519 ki_2 (by omega) ?_
  refine lz_call C (as := [.int (xs (i + 1)), .int (xs (i + 2))]) (r0 := 0) (st := []) dL_law_520 clF_may ml_Law_61 gc9 rfl (by decide) rfl rfl (Nat.zero_le _) (both_may (xs (i + 1)) (xs (i + 2)) M hI) (fun M1 r1 h1 => ?_)
  obtain ⟨⟨v1, rfl⟩, h1⟩ := h1
  refine lz_pop C (v := v1) dL_law_523 rfl ?_
  refine lz_ref2 C dL_law_524 ?_
  refine lz_arg C 1 dL_law_525 dL_law_526 dL_law_527 dL_law_528 dL_law_529 ki_1 (by omega) ?_
  refine lz_arg C 2 dL_law_530 dL_law_531 dL_law_532 dL_law_533 dL_law_534 ki_2 (by omega) ?_
  refine lz_call C (as := [.int (xs (i + 1)), .int (xs (i + 2))]) (r0 := 57) (st := []) dL_law_535 clM_may ml_Law_64 gc10 rfl (by decide) rfl rfl (Nat.le_of_ble_eq_true rfl) h1 (fun M2 r2 h2 => ?_)
  obtain ⟨⟨v2, hv, rfl⟩, hI2⟩ := h2
  refine lz_pop C (v := v2) dL_law_538 rfl ?_
  exact lz_end C dL_law_539 (by decide) (kk M2 hI2)
/-- dislike -/
theorem lw_op12 (C : lwX G b L xs p s mi meth c) (hi : i + 4 ≤ L) (hI : INV M) (kk : ∀ M2, INV M2 → Lz G b p l e s mi below meth c Q i 1232 [] M2) : Lz G b p l e s mi below meth c Q i 542 [] M := by
  refine lz_ref1 C dL_law_542 ?_
  refine lz_arg C 1 dL_law_543 dL_law_544 dL_law_545 dL_law_546 dL_law_547 ki_1 (by omega) ?_
  refine lz_arg C 2 dL_law_548 dL_law_549 dL_law_550 dL_law_551 dL_law_552 ki_2 (by omega) ?_
  refine lz_arg C 3 dL_law_553 dL_law_554 dL_law_555 dL_law_556 dL_law_557 ki_3 (by omega) ?_
  refine lz_call C (as := [.int (xs (i + 1)), .int (xs (i + 2)), .int (xs (i + 3))]) (r0 := 0) (st := []) dL_law_558 clF_dislike ml_Law_65 gc9 rfl (by decide) rfl rfl (Nat.zero_le _) (both_dislike (xs (i + 1)) (xs (i + 2)) (xs (i + 3)) M hI) (fun M1 r1 h1 => ?_)
  obtain ⟨⟨v1, rfl⟩, h1⟩ := h1
  refine lz_pop C (v := v1) dL_law_561 rfl ?_
  refine lz_ref2 C dL_law_562 ?_
  refine lz_arg C 1 dL_law_563 dL_law_564 dL_law_565 dL_law_566 dL_law_567 ki_1 (by omega) ?_
  refine lz_arg C 2 dL_law_568 dL_law_569 dL_law_570 dL_law_571 dL_law_572 ki_2 (by omega) ?_
  refine lz_arg C 3 dL_law_573 dL_law_574 dL_law_575 dL_law_576 dL_law_577 ki_3 (by omega) ?_
  refine lz_call C (as := [.int (xs (i + 1)), .int (xs (i + 2)), .int (xs (i + 3))]) (r0 := 57) (st := []) dL_law_578 clM_dislike ml_Law_68 gc10 rfl (by decide) rfl rfl (Nat.le_of_ble_eq_true rfl) h1 (fun M2 r2 h2 => ?_)
  obtain ⟨⟨v2, hv, rfl⟩, hI2⟩ := h2
  refine lz_pop C (v := v2) dL_law_581 rfl ?_
  exact lz_end C dL_law_582 (by decide) (kk M2 hI2)
/-- hold -/
theorem lw_op13 (C : lwX G b L xs p s mi meth c) (hi : i + 4 ≤ L) (hI : INV M) (kk : ∀ M2, INV M2 → Lz G b p l e s mi below meth c Q i 1232 [] M2) : Lz G b p l e s mi below meth c Q i 585 [] M := by
  refine lz_ref1 C dL_law_585 ?_
  refine lz_arg C 1 dL_law_586 dL_law_587 dL_law_588 dL_law_589 dL_law_590 ki_1 (by omega) ?_
  refine lz_arg C 2 dL_law_591 dL_law_592 dL_law_593 dL_law_594 dL_law_595 ki_2 (by omega) ?_
  refine lz_call C (as := [.int (xs (i + 1)), .int (xs (i + 2))]) (r0 := 0) (st := []) dL_law_596 clF_hold ml_Law_69 gc9 rfl (by decide) rfl rfl (Nat.zero_le _) (both_hold (xs (i + 1)) (xs (i + 2)) M hI) (fun M1 r1 h1 => ?_)
  obtain ⟨⟨v1, rfl⟩, h1⟩ := h1
  refine lz_pop C (v := v1) dL_law_599 rfl ?_
  refine lz_ref2 C dL_law_600 ?_
  refine lz_arg C 1 dL_law_601 dL_law_602 dL_law_603 dL_law_604 dL_law_605 ki_1 (by omega) ?_
  refine lz_arg C 2 dL_law_606 dL_law_607 dL_law_608 dL_law_609 dL_law_610 ki_2 (by omega) ?_
  refine lz_call C (as := [.int (xs (i + 1)), .int (xs (i + 2))]) (r0 := 57) (st := []) dL_law_611 clM_hold ml_Law_72 gc10 rfl (by decide) rfl rfl (Nat.le_of_ble_eq_true rfl) h1 (fun M2 r2 h2 => ?_)
  obtain ⟨⟨v2, hv, rfl⟩, hI2⟩ := h2
  refine lz_pop C (v := v2) dL_law_614 rfl ?_
  exact lz_end C dL_law_615 (by decide) (kk M2 hI2)
/-- a duty opened -/
theorem lw_op14 (C : lwX G b L xs p s mi meth c) (hi : i + 4 ≤ L) (hI : INV M) (kk : ∀ M2, INV M2 → Lz G b p l e s mi below meth c Q i 1232 [] M2) : Lz G b p l e s mi below meth c Q i 618 [] M := by
  refine lz_ref1 C dL_law_618 ?_
  refine lz_arg C 1 dL_law_619 dL_law_620 dL_law_621 dL_law_622 dL_law_623 ki_1 (by omega) ?_
  refine lz_call C (as := [.int (xs (i + 1))]) (r0 := 0) (st := []) dL_law_624 clF_open ml_Law_73 gc9 rfl (by decide) rfl rfl (Nat.zero_le _) (both_open (xs (i + 1)) M hI) (fun M1 r1 h1 => ?_)
  obtain ⟨⟨v1, rfl⟩, h1⟩ := h1
  refine lz_pop C (v := v1) dL_law_627 rfl ?_
  refine lz_ref2 C dL_law_628 ?_
  refine lz_arg C 1 dL_law_629 dL_law_630 dL_law_631 dL_law_632 dL_law_633 ki_1 (by omega) ?_
  refine lz_call C (as := [.int (xs (i + 1))]) (r0 := 57) (st := []) dL_law_634 clM_open ml_Law_76 gc10 rfl (by decide) rfl rfl (Nat.le_of_ble_eq_true rfl) h1 (fun M2 r2 h2 => ?_)
  obtain ⟨⟨v2, hv, rfl⟩, hI2⟩ := h2
  refine lz_pop C (v := v2) dL_law_637 rfl ?_
  exact lz_end C dL_law_638 (by decide) (kk M2 hI2)
/-- fill -/
theorem lw_op15 (C : lwX G b L xs p s mi meth c) (hi : i + 4 ≤ L) (hI : INV M) (kk : ∀ M2, INV M2 → Lz G b p l e s mi below meth c Q i 1232 [] M2) : Lz G b p l e s mi below meth c Q i 641 [] M := by
  refine lz_ref1 C dL_law_641 ?_
  refine lz_arg C 1 dL_law_642 dL_law_643 dL_law_644 dL_law_645 dL_law_646 ki_1 (by omega) ?_
  refine lz_call C (as := [.int (xs (i + 1))]) (r0 := 0) (st := []) dL_law_647 clF_fill ml_Law_77 gc9 rfl (by decide) rfl rfl (Nat.zero_le _) (both_fill (xs (i + 1)) M hI) (fun M1 r1 h1 => ?_)
  obtain ⟨⟨v1, rfl⟩, h1⟩ := h1
  refine lz_pop C (v := v1) dL_law_650 rfl ?_
  refine lz_ref2 C dL_law_651 ?_
  refine lz_arg C 1 dL_law_652 dL_law_653 dL_law_654 dL_law_655 dL_law_656 ki_1 (by omega) ?_
  refine lz_call C (as := [.int (xs (i + 1))]) (r0 := 57) (st := []) dL_law_657 clM_fill ml_Law_80 gc10 rfl (by decide) rfl rfl (Nat.le_of_ble_eq_true rfl) h1 (fun M2 r2 h2 => ?_)
  obtain ⟨⟨v2, hv, rfl⟩, hI2⟩ := h2
  refine lz_pop C (v := v2) dL_law_660 rfl ?_
  exact lz_end C dL_law_661 (by decide) (kk M2 hI2)
/-- load -/
theorem lw_op16 (C : lwX G b L xs p s mi meth c) (hi : i + 4 ≤ L) (hI : INV M) (kk : ∀ M2, INV M2 → Lz G b p l e s mi below meth c Q i 1232 [] M2) : Lz G b p l e s mi below meth c Q i 664 [] M := by
  refine lz_ref1 C dL_law_664 ?_
  refine lz_arg C 1 dL_law_665 dL_law_666 dL_law_667 dL_law_668 dL_law_669 ki_1 (by omega) ?_
  refine lz_arg C 2 dL_law_670 dL_law_671 dL_law_672 dL_law_673 dL_law_674 ki_2 (by omega) ?_
  refine lz_call C (as := [.int (xs (i + 1)), .int (xs (i + 2))]) (r0 := 0) (st := []) dL_law_675 clF_load ml_Law_81 gc9 rfl (by decide) rfl rfl (Nat.zero_le _) (both_load (xs (i + 1)) (xs (i + 2)) M hI) (fun M1 r1 h1 => ?_)
  obtain ⟨⟨v1, rfl⟩, h1⟩ := h1
  refine lz_pop C (v := v1) dL_law_678 rfl ?_
  refine lz_ref2 C dL_law_679 ?_
  refine lz_arg C 1 dL_law_680 dL_law_681 dL_law_682 dL_law_683 dL_law_684 ki_1 (by omega) ?_
  refine lz_arg C 2 dL_law_685 dL_law_686 dL_law_687 dL_law_688 dL_law_689 ki_2 (by omega) ?_
  refine lz_call C (as := [.int (xs (i + 1)), .int (xs (i + 2))]) (r0 := 57) (st := []) dL_law_690 clM_load_ ml_Law_84 gc10 rfl (by decide) rfl rfl (Nat.le_of_ble_eq_true rfl) h1 (fun M2 r2 h2 => ?_)
  obtain ⟨⟨v2, hv, rfl⟩, hI2⟩ := h2
  refine lz_pop C (v := v2) dL_law_693 rfl ?_
  exact lz_end C dL_law_694 (by decide) (kk M2 hI2)
/-- lesser -/
theorem lw_op17 (C : lwX G b L xs p s mi meth c) (hi : i + 4 ≤ L) (hI : INV M) (kk : ∀ M2, INV M2 → Lz G b p l e s mi below meth c Q i 1232 [] M2) : Lz G b p l e s mi below meth c Q i 697 [] M := by
  refine lz_ref1 C dL_law_697 ?_
  refine lz_arg C 1 dL_law_698 dL_law_699 dL_law_700 dL_law_701 dL_law_702 ki_1 (by omega) ?_
  refine lz_arg C 2 dL_law_703 dL_law_704 dL_law_705 dL_law_706 dL_law_707 ki_2 (by omega) ?_
  refine lz_call C (as := [.int (xs (i + 1)), .int (xs (i + 2))]) (r0 := 0) (st := []) dL_law_708 clF_lesser ml_Law_85 gc9 rfl (by decide) rfl rfl (Nat.zero_le _) (both_lesser (xs (i + 1)) (xs (i + 2)) M hI) (fun M1 r1 h1 => ?_)
  obtain ⟨⟨v1, rfl⟩, h1⟩ := h1
  refine lz_pop C (v := v1) dL_law_711 rfl ?_
  refine lz_ref2 C dL_law_712 ?_
  refine lz_arg C 1 dL_law_713 dL_law_714 dL_law_715 dL_law_716 dL_law_717 ki_1 (by omega) ?_
  refine lz_arg C 2 dL_law_718 dL_law_719 dL_law_720 dL_law_721 dL_law_722 ki_2 (by omega) ?_
  refine lz_call C (as := [.int (xs (i + 1)), .int (xs (i + 2))]) (r0 := 57) (st := []) dL_law_723 clM_lesser ml_Law_88 gc10 rfl (by decide) rfl rfl (Nat.le_of_ble_eq_true rfl) h1 (fun M2 r2 h2 => ?_)
  obtain ⟨⟨v2, hv, rfl⟩, hI2⟩ := h2
  refine lz_pop C (v := v2) dL_law_726 rfl ?_
  exact lz_end C dL_law_727 (by decide) (kk M2 hI2)
/-- eases -/
theorem lw_op18 (C : lwX G b L xs p s mi meth c) (hi : i + 4 ≤ L) (hI : INV M) (kk : ∀ M2, INV M2 → Lz G b p l e s mi below meth c Q i 1232 [] M2) : Lz G b p l e s mi below meth c Q i 730 [] M := by
  refine lz_ref1 C dL_law_730 ?_
  refine lz_arg C 1 dL_law_731 dL_law_732 dL_law_733 dL_law_734 dL_law_735 ki_1 (by omega) ?_
  refine lz_call C (as := [.int (xs (i + 1))]) (r0 := 0) (st := []) dL_law_736 clF_eases ml_Law_89 gc9 rfl (by decide) rfl rfl (Nat.zero_le _) (both_eases (xs (i + 1)) M hI) (fun M1 r1 h1 => ?_)
  obtain ⟨⟨v1, rfl⟩, h1⟩ := h1
  refine lz_pop C (v := v1) dL_law_739 rfl ?_
  refine lz_ref2 C dL_law_740 ?_
  refine lz_arg C 1 dL_law_741 dL_law_742 dL_law_743 dL_law_744 dL_law_745 ki_1 (by omega) ?_
  refine lz_call C (as := [.int (xs (i + 1))]) (r0 := 57) (st := []) dL_law_746 clM_eases ml_Law_92 gc10 rfl (by decide) rfl rfl (Nat.le_of_ble_eq_true rfl) h1 (fun M2 r2 h2 => ?_)
  obtain ⟨⟨v2, hv, rfl⟩, hI2⟩ := h2
  refine lz_pop C (v := v2) dL_law_749 rfl ?_
  exact lz_end C dL_law_750 (by decide) (kk M2 hI2)
/-- disliked -/
theorem lw_op19 (C : lwX G b L xs p s mi meth c) (hi : i + 4 ≤ L) (hI : INV M) (kk : ∀ M2, INV M2 → Lz G b p l e s mi below meth c Q i 1232 [] M2) : Lz G b p l e s mi below meth c Q i 753 [] M := by
  refine lz_ref1 C dL_law_753 ?_
  refine lz_call C (as := []) (r0 := 0) (st := []) dL_law_754 clF_disliked ml_Law_93 gc9 rfl (by decide) rfl rfl (Nat.zero_le _) (both_disliked M hI) (fun M1 r1 h1 => ?_)
  obtain ⟨⟨v1, rfl⟩, h1⟩ := h1
  refine lz_pop C (v := v1) dL_law_757 rfl ?_
  refine lz_ref2 C dL_law_758 ?_
  refine lz_call C (as := []) (r0 := 57) (st := []) dL_law_759 clM_disliked ml_Law_96 gc10 rfl (by decide) rfl rfl (Nat.le_of_ble_eq_true rfl) h1 (fun M2 r2 h2 => ?_)
  obtain ⟨⟨v2, hv, rfl⟩, hI2⟩ := h2
  refine lz_pop C (v := v2) dL_law_762 rfl ?_
  exact lz_end C dL_law_763 (by decide) (kk M2 hI2)
/-- ring -/
theorem lw_op20 (C : lwX G b L xs p s mi meth c) (hi : i + 4 ≤ L) (hI : INV M) (kk : ∀ M2, INV M2 → Lz G b p l e s mi below meth c Q i 1232 [] M2) : Lz G b p l e s mi below meth c Q i 766 [] M := by
  refine lz_ref1 C dL_law_766 ?_
  refine lz_arg C 1 dL_law_767 dL_law_768 dL_law_769 dL_law_770 dL_law_771 ki_1 (by omega) ?_
  refine lz_call C (as := [.int (xs (i + 1))]) (r0 := 0) (st := []) dL_law_772 clF_ring ml_Law_97 gc9 rfl (by decide) rfl rfl (Nat.zero_le _) (both_ring (xs (i + 1)) M hI) (fun M1 r1 h1 => ?_)
  obtain ⟨⟨v1, rfl⟩, h1⟩ := h1
  refine lz_pop C (v := v1) dL_law_775 rfl ?_
  refine lz_ref2 C dL_law_776 ?_
  refine lz_arg C 1 dL_law_777 dL_law_778 dL_law_779 dL_law_780 dL_law_781 ki_1 (by omega) ?_
  refine lz_call C (as := [.int (xs (i + 1))]) (r0 := 57) (st := []) dL_law_782 clM_ring ml_Law_100 gc10 rfl (by decide) rfl rfl (Nat.le_of_ble_eq_true rfl) h1 (fun M2 r2 h2 => ?_)
  obtain ⟨⟨v2, rfl⟩, hI2⟩ := h2
  refine lz_pop C (v := v2) dL_law_785 rfl ?_
  exact lz_end C dL_law_786 (by decide) (kk M2 hI2)
/-- turn -/
theorem lw_op21 (C : lwX G b L xs p s mi meth c) (hi : i + 4 ≤ L) (hI : INV M) (kk : ∀ M2, INV M2 → Lz G b p l e s mi below meth c Q i 1232 [] M2) : Lz G b p l e s mi below meth c Q i 789 [] M := by
  refine lz_ref1 C dL_law_789 ?_
  refine lz_arg C 1 dL_law_790 dL_law_791 dL_law_792 dL_law_793 dL_law_794 ki_1 (by omega) ?_
  refine lz_call C (as := [.int (xs (i + 1))]) (r0 := 0) (st := []) dL_law_795 clF_turn ml_Law_101 gc9 rfl (by decide) rfl rfl (Nat.zero_le _) (both_turn (xs (i + 1)) M hI) (fun M1 r1 h1 => ?_)
  obtain ⟨⟨v1, rfl⟩, h1⟩ := h1
  refine lz_pop C (v := v1) dL_law_798 rfl ?_
  refine lz_ref2 C dL_law_799 ?_
  refine lz_arg C 1 dL_law_800 dL_law_801 dL_law_802 dL_law_803 dL_law_804 ki_1 (by omega) ?_
  refine lz_call C (as := [.int (xs (i + 1))]) (r0 := 57) (st := []) dL_law_805 clM_turn ml_Law_104 gc10 rfl (by decide) rfl rfl (Nat.le_of_ble_eq_true rfl) h1 (fun M2 r2 h2 => ?_)
  obtain ⟨⟨v2, hv, rfl⟩, hI2⟩ := h2
  refine lz_pop C (v := v2) dL_law_808 rfl ?_
  exact lz_end C dL_law_809 (by decide) (kk M2 hI2)
/-- close -/
theorem lw_op22 (C : lwX G b L xs p s mi meth c) (hi : i + 4 ≤ L) (hI : INV M) (kk : ∀ M2, INV M2 → Lz G b p l e s mi below meth c Q i 1232 [] M2) : Lz G b p l e s mi below meth c Q i 812 [] M := by
  refine lz_ref1 C dL_law_812 ?_
  refine lz_call C (as := []) (r0 := 0) (st := []) dL_law_813 clF_close ml_Law_105 gc9 rfl (by decide) rfl rfl (Nat.zero_le _) (both_close M hI) (fun M1 r1 h1 => ?_)
  obtain ⟨⟨v1, rfl⟩, h1⟩ := h1
  refine lz_pop C (v := v1) dL_law_816 rfl ?_
  refine lz_ref2 C dL_law_817 ?_
  refine lz_call C (as := []) (r0 := 57) (st := []) dL_law_818 clM_close ml_Law_108 gc10 rfl (by decide) rfl rfl (Nat.le_of_ble_eq_true rfl) h1 (fun M2 r2 h2 => ?_)
  obtain ⟨⟨v2, hv, rfl⟩, hI2⟩ := h2
  refine lz_pop C (v := v2) dL_law_821 rfl ?_
  exact lz_end C dL_law_822 (by decide) (kk M2 hI2)
/-- audit -/
theorem lw_op23 (C : lwX G b L xs p s mi meth c) (hi : i + 4 ≤ L) (hI : INV M) (kk : ∀ M2, INV M2 → Lz G b p l e s mi below meth c Q i 1232 [] M2) : Lz G b p l e s mi below meth c Q i 825 [] M := by
  refine lz_ref1 C dL_law_825 ?_
  refine lz_arg C 1 dL_law_826 dL_law_827 dL_law_828 dL_law_829 dL_law_830 ki_1 (by omega) ?_
  refine lz_arg C 2 dL_law_831 dL_law_832 dL_law_833 dL_law_834 dL_law_835 ki_2 (by omega) ?_
  refine lz_call C (as := [.int (xs (i + 1)), .int (xs (i + 2))]) (r0 := 0) (st := []) dL_law_836 clF_audit ml_Law_109 gc9 rfl (by decide) rfl rfl (Nat.zero_le _) (both_audit (xs (i + 1)) (xs (i + 2)) M hI) (fun M1 r1 h1 => ?_)
  obtain ⟨⟨v1, rfl⟩, h1⟩ := h1
  refine lz_pop C (v := v1) dL_law_839 rfl ?_
  refine lz_ref2 C dL_law_840 ?_
  refine lz_arg C 1 dL_law_841 dL_law_842 dL_law_843 dL_law_844 dL_law_845 ki_1 (by omega) ?_
  refine lz_arg C 2 dL_law_846 dL_law_847 dL_law_848 dL_law_849 dL_law_850 ki_2 (by omega) ?_
  refine lz_call C (as := [.int (xs (i + 1)), .int (xs (i + 2))]) (r0 := 57) (st := []) dL_law_851 clM_audit ml_Law_112 gc10 rfl (by decide) rfl rfl (Nat.le_of_ble_eq_true rfl) h1 (fun M2 r2 h2 => ?_)
  obtain ⟨⟨v2, hv, rfl⟩, hI2⟩ := h2
  refine lz_pop C (v := v2) dL_law_854 rfl ?_
  exact lz_end C dL_law_855 (by decide) (kk M2 hI2)
/-- next -/
theorem lw_op24 (C : lwX G b L xs p s mi meth c) (hi : i + 4 ≤ L) (hI : INV M) (kk : ∀ M2, INV M2 → Lz G b p l e s mi below meth c Q i 1232 [] M2) : Lz G b p l e s mi below meth c Q i 858 [] M := by
  refine lz_ref1 C dL_law_858 ?_
  refine lz_arg C 1 dL_law_859 dL_law_860 dL_law_861 dL_law_862 dL_law_863 ki_1 (by omega) ?_
  refine lz_arg C 2 dL_law_864 dL_law_865 dL_law_866 dL_law_867 dL_law_868 ki_2 (by omega) ?_
  refine lz_call C (as := [.int (xs (i + 1)), .int (xs (i + 2))]) (r0 := 0) (st := []) dL_law_869 clF_next ml_Law_113 gc9 rfl (by decide) rfl rfl (Nat.zero_le _) (both_next (xs (i + 1)) (xs (i + 2)) M hI) (fun M1 r1 h1 => ?_)
  obtain ⟨⟨v1, rfl⟩, h1⟩ := h1
  refine lz_pop C (v := v1) dL_law_872 rfl ?_
  refine lz_ref2 C dL_law_873 ?_
  refine lz_arg C 1 dL_law_874 dL_law_875 dL_law_876 dL_law_877 dL_law_878 ki_1 (by omega) ?_
  refine lz_arg C 2 dL_law_879 dL_law_880 dL_law_881 dL_law_882 dL_law_883 ki_2 (by omega) ?_
  refine lz_call C (as := [.int (xs (i + 1)), .int (xs (i + 2))]) (r0 := 57) (st := []) dL_law_884 clM_next ml_Law_116 gc10 rfl (by decide) rfl rfl (Nat.le_of_ble_eq_true rfl) h1 (fun M2 r2 h2 => ?_)
  obtain ⟨⟨v2, hv, rfl⟩, hI2⟩ := h2
  refine lz_pop C (v := v2) dL_law_887 rfl ?_
  exact lz_end C dL_law_888 (by decide) (kk M2 hI2)
/-- near -/
theorem lw_op25 (C : lwX G b L xs p s mi meth c) (hi : i + 4 ≤ L) (hI : INV M) (kk : ∀ M2, INV M2 → Lz G b p l e s mi below meth c Q i 1232 [] M2) : Lz G b p l e s mi below meth c Q i 891 [] M := by
  refine lz_ref1 C dL_law_891 ?_
  refine lz_call C (as := []) (r0 := 0) (st := []) dL_law_892 clF_near ml_Law_117 gc9 rfl (by decide) rfl rfl (Nat.zero_le _) (both_near M hI) (fun M1 r1 h1 => ?_)
  obtain ⟨⟨v1, rfl⟩, h1⟩ := h1
  refine lz_pop C (v := v1) dL_law_895 rfl ?_
  refine lz_ref2 C dL_law_896 ?_
  refine lz_call C (as := []) (r0 := 57) (st := []) dL_law_897 clM_near ml_Law_120 gc10 rfl (by decide) rfl rfl (Nat.le_of_ble_eq_true rfl) h1 (fun M2 r2 h2 => ?_)
  obtain ⟨⟨v2, hv, rfl⟩, hI2⟩ := h2
  refine lz_pop C (v := v2) dL_law_900 rfl ?_
  exact lz_end C dL_law_901 (by decide) (kk M2 hI2)
/-- heaviest -/
theorem lw_op26 (C : lwX G b L xs p s mi meth c) (hi : i + 4 ≤ L) (hI : INV M) (kk : ∀ M2, INV M2 → Lz G b p l e s mi below meth c Q i 1232 [] M2) : Lz G b p l e s mi below meth c Q i 904 [] M := by
  refine lz_ref1 C dL_law_904 ?_
  refine lz_call C (as := []) (r0 := 0) (st := []) dL_law_905 clF_heaviest ml_Law_121 gc9 rfl (by decide) rfl rfl (Nat.zero_le _) (both_heaviest M hI) (fun M1 r1 h1 => ?_)
  obtain ⟨⟨v1, rfl⟩, h1⟩ := h1
  refine lz_pop C (v := v1) dL_law_908 rfl ?_
  refine lz_ref2 C dL_law_909 ?_
  refine lz_call C (as := []) (r0 := 57) (st := []) dL_law_910 clM_heaviest ml_Law_124 gc10 rfl (by decide) rfl rfl (Nat.le_of_ble_eq_true rfl) h1 (fun M2 r2 h2 => ?_)
  obtain ⟨⟨v2, hv, rfl⟩, hI2⟩ := h2
  refine lz_pop C (v := v2) dL_law_913 rfl ?_
  exact lz_end C dL_law_914 (by decide) (kk M2 hI2)
/-- feed -/
theorem lw_op27 (C : lwX G b L xs p s mi meth c) (hi : i + 4 ≤ L) (hI : INV M) (kk : ∀ M2, INV M2 → Lz G b p l e s mi below meth c Q i 1232 [] M2) : Lz G b p l e s mi below meth c Q i 917 [] M := by
  refine lz_ref1 C dL_law_917 ?_
  refine lz_arg C 1 dL_law_918 dL_law_919 dL_law_920 dL_law_921 dL_law_922 ki_1 (by omega) ?_
  refine lz_call C (as := [.int (xs (i + 1))]) (r0 := 0) (st := []) dL_law_923 clF_feed ml_Law_125 gc9 rfl (by decide) rfl rfl (Nat.zero_le _) (both_feed (xs (i + 1)) M hI) (fun M1 r1 h1 => ?_)
  obtain ⟨⟨v1, rfl⟩, h1⟩ := h1
  refine lz_pop C (v := v1) dL_law_926 rfl ?_
  refine lz_ref2 C dL_law_927 ?_
  refine lz_arg C 1 dL_law_928 dL_law_929 dL_law_930 dL_law_931 dL_law_932 ki_1 (by omega) ?_
  refine lz_call C (as := [.int (xs (i + 1))]) (r0 := 57) (st := []) dL_law_933 clM_feed ml_Law_128 gc10 rfl (by decide) rfl rfl (Nat.le_of_ble_eq_true rfl) h1 (fun M2 r2 h2 => ?_)
  obtain ⟨⟨v2, hv, rfl⟩, hI2⟩ := h2
  refine lz_pop C (v := v2) dL_law_936 rfl ?_
  exact lz_end C dL_law_937 (by decide) (kk M2 hI2)
/-- clear -/
theorem lw_op28 (C : lwX G b L xs p s mi meth c) (hi : i + 4 ≤ L) (hI : INV M) (kk : ∀ M2, INV M2 → Lz G b p l e s mi below meth c Q i 1232 [] M2) : Lz G b p l e s mi below meth c Q i 940 [] M := by
  refine lz_ref1 C dL_law_940 ?_
  refine lz_call C (as := []) (r0 := 0) (st := []) dL_law_941 clF_clear ml_Law_129 gc9 rfl (by decide) rfl rfl (Nat.zero_le _) (both_clear M hI) (fun M1 r1 h1 => ?_)
  obtain ⟨⟨v1, rfl⟩, h1⟩ := h1
  refine lz_pop C (v := v1) dL_law_944 rfl ?_
  refine lz_ref2 C dL_law_945 ?_
  refine lz_call C (as := []) (r0 := 57) (st := []) dL_law_946 clM_clear ml_Law_132 gc10 rfl (by decide) rfl rfl (Nat.le_of_ble_eq_true rfl) h1 (fun M2 r2 h2 => ?_)
  obtain ⟨⟨v2, hv, rfl⟩, hI2⟩ := h2
  refine lz_pop C (v := v2) dL_law_949 rfl ?_
  exact lz_end C dL_law_950 (by decide) (kk M2 hI2)
/-- pick -/
theorem lw_op29 (C : lwX G b L xs p s mi meth c) (hi : i + 4 ≤ L) (hI : INV M) (kk : ∀ M2, INV M2 → Lz G b p l e s mi below meth c Q i 1232 [] M2) : Lz G b p l e s mi below meth c Q i 953 [] M := by
  refine lz_ref1 C dL_law_953 ?_
  refine lz_call C (as := []) (r0 := 0) (st := []) dL_law_954 clF_pick ml_Law_133 gc9 rfl (by decide) rfl rfl (Nat.zero_le _) (both_pick M hI) (fun M1 r1 h1 => ?_)
  obtain ⟨⟨v1, rfl⟩, h1⟩ := h1
  refine lz_pop C (v := v1) dL_law_957 rfl ?_
  refine lz_ref2 C dL_law_958 ?_
  refine lz_call C (as := []) (r0 := 57) (st := []) dL_law_959 clM_pick ml_Law_136 gc10 rfl (by decide) rfl rfl (Nat.le_of_ble_eq_true rfl) h1 (fun M2 r2 h2 => ?_)
  obtain ⟨⟨v2, hv, rfl⟩, hI2⟩ := h2
  refine lz_pop C (v := v2) dL_law_962 rfl ?_
  exact lz_end C dL_law_963 (by decide) (kk M2 hI2)
/-- openAll -/
theorem lw_op30 (C : lwX G b L xs p s mi meth c) (hi : i + 4 ≤ L) (hI : INV M) (kk : ∀ M2, INV M2 → Lz G b p l e s mi below meth c Q i 1232 [] M2) : Lz G b p l e s mi below meth c Q i 966 [] M := by
  refine lz_ref1 C dL_law_966 ?_
  refine lz_call C (as := []) (r0 := 0) (st := []) dL_law_967 clF_openAll ml_Law_137 gc9 rfl (by decide) rfl rfl (Nat.zero_le _) (both_openAll M hI) (fun M1 r1 h1 => ?_)
  obtain ⟨⟨v1, rfl⟩, h1⟩ := h1
  refine lz_pop C (v := v1) dL_law_970 rfl ?_
  refine lz_ref2 C dL_law_971 ?_
  refine lz_call C (as := []) (r0 := 57) (st := []) dL_law_972 clM_openAll ml_Law_140 gc10 rfl (by decide) rfl rfl (Nat.le_of_ble_eq_true rfl) h1 (fun M2 r2 h2 => ?_)
  obtain ⟨⟨v2, hv, rfl⟩, hI2⟩ := h2
  refine lz_pop C (v := v2) dL_law_975 rfl ?_
  exact lz_end C dL_law_976 (by decide) (kk M2 hI2)
/-- judge -/
theorem lw_op31 (C : lwX G b L xs p s mi meth c) (hi : i + 4 ≤ L) (hI : INV M) (kk : ∀ M2, INV M2 → Lz G b p l e s mi below meth c Q i 1232 [] M2) : Lz G b p l e s mi below meth c Q i 979 [] M := by
  refine lz_ref1 C dL_law_979 ?_
  refine lz_call C (as := []) (r0 := 0) (st := []) dL_law_980 clF_judge ml_Law_141 gc9 rfl (by decide) rfl rfl (Nat.zero_le _) (both_judge M hI) (fun M1 r1 h1 => ?_)
  obtain ⟨⟨v1, rfl⟩, h1⟩ := h1
  refine lz_pop C (v := v1) dL_law_983 rfl ?_
  refine lz_ref2 C dL_law_984 ?_
  refine lz_call C (as := []) (r0 := 57) (st := []) dL_law_985 clM_judge ml_Law_144 gc10 rfl (by decide) rfl rfl (Nat.le_of_ble_eq_true rfl) h1 (fun M2 r2 h2 => ?_)
  obtain ⟨⟨v2, hv, rfl⟩, hI2⟩ := h2
  refine lz_pop C (v := v2) dL_law_988 rfl ?_
  exact lz_end C dL_law_989 (by decide) (kk M2 hI2)
/-- roster -/
theorem lw_op32 (C : lwX G b L xs p s mi meth c) (hi : i + 4 ≤ L) (hI : INV M) (kk : ∀ M2, INV M2 → Lz G b p l e s mi below meth c Q i 1232 [] M2) : Lz G b p l e s mi below meth c Q i 992 [] M := by
  refine lz_ref1 C dL_law_992 ?_
  refine lz_call C (as := []) (r0 := 0) (st := []) dL_law_993 clF_roster ml_Law_145 gc9 rfl (by decide) rfl rfl (Nat.zero_le _) (both_roster M hI) (fun M1 r1 h1 => ?_)
  obtain ⟨⟨v1, rfl⟩, h1⟩ := h1
  refine lz_pop C (v := v1) dL_law_996 rfl ?_
  refine lz_ref2 C dL_law_997 ?_
  refine lz_call C (as := []) (r0 := 57) (st := []) dL_law_998 clM_roster ml_Law_148 gc10 rfl (by decide) rfl rfl (Nat.le_of_ble_eq_true rfl) h1 (fun M2 r2 h2 => ?_)
  obtain ⟨⟨v2, hv, rfl⟩, hI2⟩ := h2
  refine lz_pop C (v := v2) dL_law_1001 rfl ?_
  exact lz_end C dL_law_1002 (by decide) (kk M2 hI2)
/-- spell -/
theorem lw_op33 (C : lwX G b L xs p s mi meth c) (hi : i + 4 ≤ L) (hI : INV M) (kk : ∀ M2, INV M2 → Lz G b p l e s mi below meth c Q i 1232 [] M2) : Lz G b p l e s mi below meth c Q i 1005 [] M := by
  refine lz_ref1 C dL_law_1005 ?_
  refine lz_call C (as := []) (r0 := 0) (st := []) dL_law_1006 clF_spell ml_Law_149 gc9 rfl (by decide) rfl rfl (Nat.zero_le _) (both_spell M hI) (fun M1 r1 h1 => ?_)
  obtain ⟨⟨v1, rfl⟩, h1⟩ := h1
  refine lz_pop C (v := v1) dL_law_1009 rfl ?_
  refine lz_ref2 C dL_law_1010 ?_
  refine lz_call C (as := []) (r0 := 57) (st := []) dL_law_1011 clM_spell ml_Law_152 gc10 rfl (by decide) rfl rfl (Nat.le_of_ble_eq_true rfl) h1 (fun M2 r2 h2 => ?_)
  obtain ⟨⟨v2, hv, rfl⟩, hI2⟩ := h2
  refine lz_pop C (v := v2) dL_law_1014 rfl ?_
  exact lz_end C dL_law_1015 (by decide) (kk M2 hI2)
/-- paper -/
theorem lw_op34 (C : lwX G b L xs p s mi meth c) (hi : i + 4 ≤ L) (hI : INV M) (kk : ∀ M2, INV M2 → Lz G b p l e s mi below meth c Q i 1232 [] M2) : Lz G b p l e s mi below meth c Q i 1018 [] M := by
  refine lz_ref1 C dL_law_1018 ?_
  refine lz_arg C 1 dL_law_1019 dL_law_1020 dL_law_1021 dL_law_1022 dL_law_1023 ki_1 (by omega) ?_
  refine lz_call C (as := [.int (xs (i + 1))]) (r0 := 0) (st := []) dL_law_1024 clF_paper ml_Law_153 gc9 rfl (by decide) rfl rfl (Nat.zero_le _) (both_paper (xs (i + 1)) M hI) (fun M1 r1 h1 => ?_)
  obtain ⟨⟨v1, rfl⟩, h1⟩ := h1
  refine lz_pop C (v := v1) dL_law_1027 rfl ?_
  refine lz_ref2 C dL_law_1028 ?_
  refine lz_arg C 1 dL_law_1029 dL_law_1030 dL_law_1031 dL_law_1032 dL_law_1033 ki_1 (by omega) ?_
  refine lz_call C (as := [.int (xs (i + 1))]) (r0 := 57) (st := []) dL_law_1034 clM_paper ml_Law_156 gc10 rfl (by decide) rfl rfl (Nat.le_of_ble_eq_true rfl) h1 (fun M2 r2 h2 => ?_)
  obtain ⟨⟨v2, hv, rfl⟩, hI2⟩ := h2
  refine lz_pop C (v := v2) dL_law_1037 rfl ?_
  exact lz_end C dL_law_1038 (by decide) (kk M2 hI2)
/-- told -/
theorem lw_op35 (C : lwX G b L xs p s mi meth c) (hi : i + 4 ≤ L) (hI : INV M) (kk : ∀ M2, INV M2 → Lz G b p l e s mi below meth c Q i 1232 [] M2) : Lz G b p l e s mi below meth c Q i 1041 [] M := by
  refine lz_ref1 C dL_law_1041 ?_
  refine lz_arg C 1 dL_law_1042 dL_law_1043 dL_law_1044 dL_law_1045 dL_law_1046 ki_1 (by omega) ?_
  refine lz_call C (as := [.int (xs (i + 1))]) (r0 := 0) (st := []) dL_law_1047 clF_told ml_Law_157 gc9 rfl (by decide) rfl rfl (Nat.zero_le _) (both_told (xs (i + 1)) M hI) (fun M1 r1 h1 => ?_)
  obtain ⟨⟨v1, rfl⟩, h1⟩ := h1
  refine lz_pop C (v := v1) dL_law_1050 rfl ?_
  refine lz_ref2 C dL_law_1051 ?_
  refine lz_arg C 1 dL_law_1052 dL_law_1053 dL_law_1054 dL_law_1055 dL_law_1056 ki_1 (by omega) ?_
  refine lz_call C (as := [.int (xs (i + 1))]) (r0 := 57) (st := []) dL_law_1057 clM_told ml_Law_160 gc10 rfl (by decide) rfl rfl (Nat.le_of_ble_eq_true rfl) h1 (fun M2 r2 h2 => ?_)
  obtain ⟨⟨v2, hv, rfl⟩, hI2⟩ := h2
  refine lz_pop C (v := v2) dL_law_1060 rfl ?_
  exact lz_end C dL_law_1061 (by decide) (kk M2 hI2)
/-- list -/
theorem lw_op36 (C : lwX G b L xs p s mi meth c) (hi : i + 4 ≤ L) (hI : INV M) (kk : ∀ M2, INV M2 → Lz G b p l e s mi below meth c Q i 1232 [] M2) : Lz G b p l e s mi below meth c Q i 1064 [] M := by
  refine lz_ref1 C dL_law_1064 ?_
  refine lz_arg C 1 dL_law_1065 dL_law_1066 dL_law_1067 dL_law_1068 dL_law_1069 ki_1 (by omega) ?_
  refine lz_arg C 2 dL_law_1070 dL_law_1071 dL_law_1072 dL_law_1073 dL_law_1074 ki_2 (by omega) ?_
  refine lz_call C (as := [.int (xs (i + 1)), .int (xs (i + 2))]) (r0 := 0) (st := []) dL_law_1075 clF_list ml_Law_161 gc9 rfl (by decide) rfl rfl (Nat.zero_le _) (both_list (xs (i + 1)) (xs (i + 2)) M hI) (fun M1 r1 h1 => ?_)
  obtain ⟨⟨v1, rfl⟩, h1⟩ := h1
  refine lz_pop C (v := v1) dL_law_1078 rfl ?_
  refine lz_ref2 C dL_law_1079 ?_
  refine lz_arg C 1 dL_law_1080 dL_law_1081 dL_law_1082 dL_law_1083 dL_law_1084 ki_1 (by omega) ?_
  refine lz_arg C 2 dL_law_1085 dL_law_1086 dL_law_1087 dL_law_1088 dL_law_1089 ki_2 (by omega) ?_
  refine lz_call C (as := [.int (xs (i + 1)), .int (xs (i + 2))]) (r0 := 57) (st := []) dL_law_1090 clM_list ml_Law_164 gc10 rfl (by decide) rfl rfl (Nat.le_of_ble_eq_true rfl) h1 (fun M2 r2 h2 => ?_)
  obtain ⟨⟨v2, hv, rfl⟩, hI2⟩ := h2
  refine lz_pop C (v := v2) dL_law_1093 rfl ?_
  exact lz_end C dL_law_1094 (by decide) (kk M2 hI2)
/-- set -/
theorem lw_op37 (C : lwX G b L xs p s mi meth c) (hi : i + 4 ≤ L) (hI : INV M) (kk : ∀ M2, INV M2 → Lz G b p l e s mi below meth c Q i 1232 [] M2) : Lz G b p l e s mi below meth c Q i 1097 [] M := by
  refine lz_ref1 C dL_law_1097 ?_
  refine lz_arg C 1 dL_law_1098 dL_law_1099 dL_law_1100 dL_law_1101 dL_law_1102 ki_1 (by omega) ?_
  refine lz_arg C 2 dL_law_1103 dL_law_1104 dL_law_1105 dL_law_1106 dL_law_1107 ki_2 (by omega) ?_
  refine lz_arg C 3 dL_law_1108 dL_law_1109 dL_law_1110 dL_law_1111 dL_law_1112 ki_3 (by omega) ?_
  refine lz_call C (as := [.int (xs (i + 1)), .int (xs (i + 2)), .int (xs (i + 3))]) (r0 := 0) (st := []) dL_law_1113 clF_set ml_Law_165 gc9 rfl (by decide) rfl rfl (Nat.zero_le _) (both_set (xs (i + 1)) (xs (i + 2)) (xs (i + 3)) M hI) (fun M1 r1 h1 => ?_)
  obtain ⟨⟨v1, rfl⟩, h1⟩ := h1
  refine lz_pop C (v := v1) dL_law_1116 rfl ?_
  refine lz_ref2 C dL_law_1117 ?_
  refine lz_arg C 1 dL_law_1118 dL_law_1119 dL_law_1120 dL_law_1121 dL_law_1122 ki_1 (by omega) ?_
  refine lz_arg C 2 dL_law_1123 dL_law_1124 dL_law_1125 dL_law_1126 dL_law_1127 ki_2 (by omega) ?_
  refine lz_arg C 3 dL_law_1128 dL_law_1129 dL_law_1130 dL_law_1131 dL_law_1132 ki_3 (by omega) ?_
  refine lz_call C (as := [.int (xs (i + 1)), .int (xs (i + 2)), .int (xs (i + 3))]) (r0 := 57) (st := []) dL_law_1133 clM_set ml_Law_168 gc10 rfl (by decide) rfl rfl (Nat.le_of_ble_eq_true rfl) h1 (fun M2 r2 h2 => ?_)
  obtain ⟨⟨v2, hv, rfl⟩, hI2⟩ := h2
  refine lz_pop C (v := v2) dL_law_1136 rfl ?_
  exact lz_end C dL_law_1137 (by decide) (kk M2 hI2)
/-- get -/
theorem lw_op38 (C : lwX G b L xs p s mi meth c) (hi : i + 4 ≤ L) (hI : INV M) (kk : ∀ M2, INV M2 → Lz G b p l e s mi below meth c Q i 1232 [] M2) : Lz G b p l e s mi below meth c Q i 1140 [] M := by
  refine lz_ref1 C dL_law_1140 ?_
  refine lz_arg C 1 dL_law_1141 dL_law_1142 dL_law_1143 dL_law_1144 dL_law_1145 ki_1 (by omega) ?_
  refine lz_arg C 2 dL_law_1146 dL_law_1147 dL_law_1148 dL_law_1149 dL_law_1150 ki_2 (by omega) ?_
  refine lz_call C (as := [.int (xs (i + 1)), .int (xs (i + 2))]) (r0 := 0) (st := []) dL_law_1151 clF_get ml_Law_169 gc9 rfl (by decide) rfl rfl (Nat.zero_le _) (both_get (xs (i + 1)) (xs (i + 2)) M hI) (fun M1 r1 h1 => ?_)
  obtain ⟨⟨v1, rfl⟩, h1⟩ := h1
  refine lz_popl C (v := v1) dL_law_1154 rfl ?_
  refine lz_ref2 C dL_law_1155 ?_
  refine lz_arg C 1 dL_law_1156 dL_law_1157 dL_law_1158 dL_law_1159 dL_law_1160 ki_1 (by omega) ?_
  refine lz_arg C 2 dL_law_1161 dL_law_1162 dL_law_1163 dL_law_1164 dL_law_1165 ki_2 (by omega) ?_
  refine lz_call C (as := [.int (xs (i + 1)), .int (xs (i + 2))]) (r0 := 57) (st := []) dL_law_1166 clM_get ml_Law_173 gc10 rfl (by decide) rfl rfl (Nat.le_of_ble_eq_true rfl) h1 (fun M2 r2 h2 => ?_)
  obtain ⟨⟨v2, hv, rfl⟩, hI2⟩ := h2
  refine lz_popl C (v := v2) dL_law_1169 rfl ?_
  exact lz_end C dL_law_1170 (by decide) (kk M2 hI2)
/-- lay -/
theorem lw_op39 (C : lwX G b L xs p s mi meth c) (hi : i + 4 ≤ L) (hI : INV M) (kk : ∀ M2, INV M2 → Lz G b p l e s mi below meth c Q i 1232 [] M2) : Lz G b p l e s mi below meth c Q i 1173 [] M := by
  refine lz_ref1 C dL_law_1173 ?_
  refine lz_arg C 1 dL_law_1174 dL_law_1175 dL_law_1176 dL_law_1177 dL_law_1178 ki_1 (by omega) ?_
  refine lz_arg C 2 dL_law_1179 dL_law_1180 dL_law_1181 dL_law_1182 dL_law_1183 ki_2 (by omega) ?_
  refine lz_call C (as := [.int (xs (i + 1)), .int (xs (i + 2))]) (r0 := 0) (st := []) dL_law_1184 clF_lay ml_Law_174 gc9 rfl (by decide) rfl rfl (Nat.zero_le _) (both_lay (xs (i + 1)) (xs (i + 2)) M hI) (fun M1 r1 h1 => ?_)
  obtain ⟨⟨v1, rfl⟩, h1⟩ := h1
  refine lz_pop C (v := v1) dL_law_1187 rfl ?_
  refine lz_ref2 C dL_law_1188 ?_
  refine lz_arg C 1 dL_law_1189 dL_law_1190 dL_law_1191 dL_law_1192 dL_law_1193 ki_1 (by omega) ?_
  refine lz_arg C 2 dL_law_1194 dL_law_1195 dL_law_1196 dL_law_1197 dL_law_1198 ki_2 (by omega) ?_
  refine lz_call C (as := [.int (xs (i + 1)), .int (xs (i + 2))]) (r0 := 57) (st := []) dL_law_1199 clM_lay ml_Law_177 gc10 rfl (by decide) rfl rfl (Nat.le_of_ble_eq_true rfl) h1 (fun M2 r2 h2 => ?_)
  obtain ⟨⟨v2, hv, rfl⟩, hI2⟩ := h2
  refine lz_pop C (v := v2) dL_law_1202 rfl ?_
  exact lz_end C dL_law_1203 (by decide) (kk M2 hI2)
/-- image -/
theorem lw_op40 (C : lwX G b L xs p s mi meth c) (hi : i + 4 ≤ L) (hI : INV M) (kk : ∀ M2, INV M2 → Lz G b p l e s mi below meth c Q i 1232 [] M2) : Lz G b p l e s mi below meth c Q i 1206 [] M := by
  refine lz_ref1 C dL_law_1206 ?_
  refine lz_call C (as := []) (r0 := 0) (st := []) dL_law_1207 clF_image ml_Law_178 gc9 rfl (by decide) rfl rfl (Nat.zero_le _) (both_image M hI) (fun M1 r1 h1 => ?_)
  obtain ⟨⟨v1, rfl⟩, h1⟩ := h1
  refine lz_pop C (v := v1) dL_law_1210 rfl ?_
  refine lz_ref2 C dL_law_1211 ?_
  refine lz_call C (as := []) (r0 := 57) (st := []) dL_law_1212 clM_image ml_Law_181 gc10 rfl (by decide) rfl rfl (Nat.le_of_ble_eq_true rfl) h1 (fun M2 r2 h2 => ?_)
  obtain ⟨⟨v2, hv, rfl⟩, hI2⟩ := h2
  refine lz_pop C (v := v2) dL_law_1215 rfl ?_
  exact lz_end C dL_law_1216 (by decide) (kk M2 hI2)
/-- undo -/
theorem lw_op41 (C : lwX G b L xs p s mi meth c) (hi : i + 4 ≤ L) (hI : INV M) (kk : ∀ M2, INV M2 → Lz G b p l e s mi below meth c Q i 1232 [] M2) : Lz G b p l e s mi below meth c Q i 1219 [] M := by
  refine lz_ref1 C dL_law_1219 ?_
  refine lz_call C (as := []) (r0 := 0) (st := []) dL_law_1220 clF_undo ml_Law_182 gc9 rfl (by decide) rfl rfl (Nat.zero_le _) (both_undo M hI) (fun M1 r1 h1 => ?_)
  obtain ⟨⟨v1, rfl⟩, h1⟩ := h1
  refine lz_ref2 C dL_law_1223 ?_
  refine lz_call C (as := []) (r0 := 57) (st := [.int v1]) dL_law_1224 clM_undo ml_Law_185 gc10 rfl (by decide) rfl rfl (Nat.le_of_ble_eq_true rfl) h1 (fun M2 r2 h2 => ?_)
  obtain ⟨⟨v2, hv, rfl⟩, hI2⟩ := h2
  cases hv
  exact lz_eq C (v := v1) 1232 dL_law_1227 (by decide) rfl (kk M2 hI2)
end LWO
/-! THE LAW: its loop -/
section LWL
variable {G : GG} {b L : Nat} {xs : Nat → Int32} {p : Program} {l : Launch} {e : Env} {s : State} {mi : MethodId} {below : List Frame} {meth : Method} {c : Code}
theorem lw_ops {Q : State → Prop} {i : Nat} {M : Mm} (C : lwX G b L xs p s mi meth c) (hi : i + 4 ≤ L) (hI : INV M) (kk : ∀ M2, INV M2 → Lz G b p l e s mi below meth c Q i 1232 [] M2) : ∀ j, j < 42 → Lz G b p l e s mi below meth c Q i (lwT j) [] M := fun j hj => match j, hj with
  | 0, _ => lw_op0 C hi hI kk
  | 1, _ => lw_op1 C hi hI kk
  | 2, _ => lw_op2 C hi hI kk
  | 3, _ => lw_op3 C hi hI kk
  | 4, _ => lw_op4 C hi hI kk
  | 5, _ => lw_op5 C hi hI kk
  | 6, _ => lw_op6 C hi hI kk
  | 7, _ => lw_op7 C hi hI kk
  | 8, _ => lw_op8 C hi hI kk
  | 9, _ => lw_op9 C hi hI kk
  | 10, _ => lw_op10 C hi hI kk
  | 11, _ => lw_op11 C hi hI kk
  | 12, _ => lw_op12 C hi hI kk
  | 13, _ => lw_op13 C hi hI kk
  | 14, _ => lw_op14 C hi hI kk
  | 15, _ => lw_op15 C hi hI kk
  | 16, _ => lw_op16 C hi hI kk
  | 17, _ => lw_op17 C hi hI kk
  | 18, _ => lw_op18 C hi hI kk
  | 19, _ => lw_op19 C hi hI kk
  | 20, _ => lw_op20 C hi hI kk
  | 21, _ => lw_op21 C hi hI kk
  | 22, _ => lw_op22 C hi hI kk
  | 23, _ => lw_op23 C hi hI kk
  | 24, _ => lw_op24 C hi hI kk
  | 25, _ => lw_op25 C hi hI kk
  | 26, _ => lw_op26 C hi hI kk
  | 27, _ => lw_op27 C hi hI kk
  | 28, _ => lw_op28 C hi hI kk
  | 29, _ => lw_op29 C hi hI kk
  | 30, _ => lw_op30 C hi hI kk
  | 31, _ => lw_op31 C hi hI kk
  | 32, _ => lw_op32 C hi hI kk
  | 33, _ => lw_op33 C hi hI kk
  | 34, _ => lw_op34 C hi hI kk
  | 35, _ => lw_op35 C hi hI kk
  | 36, _ => lw_op36 C hi hI kk
  | 37, _ => lw_op37 C hi hI kk
  | 38, _ => lw_op38 C hi hI kk
  | 39, _ => lw_op39 C hi hI kk
  | 40, _ => lw_op40 C hi hI kk
  | 41, _ => lw_op41 C hi hI kk
  | z + 42, h => absurd h (by omega)
theorem lz_all (C : lwX G b L xs p s mi meth c) : ∀ (t i : Nat) (M : Mm), INV M → i ≤ 4096 → L < i + 4 * (t + 1) → Lz G b p l e s mi below meth c (lw_Z below #[Value.ref b] s) i 18 [] M
  | 0, i, M, hI, hi, ht => lz_head C hi (lz_exit C) (fun h => absurd h (by omega))
  | t + 1, i, M, hI, hi, ht => lz_head C hi (lz_exit C) (fun h => by
    have hL := C.2.2.2.2.2.1
    have hn : ∀ M2, INV M2 → Lz G b p l e s mi below meth c (lw_Z below #[Value.ref b] s) i 1232 [] M2 := fun M2 hI2 => lz_next C (lz_all C t (i + 4) M2 hI2 (by omega) (by omega))
    exact lz_key C h (lw_ops C h hI hn) (hn M hI))
end LWL
/-! THE LAW: the start -/
def M0 : Mm := fun k => ([fun j => ([0, 0, nI 0, 0, 0, 0, 0, 0, 0, 0, 0] : List Int32).getD j 0, fun j => ([0, 0, 0, 0, 0, 0, 0, 0, 0, 0, 0, 0, 0, 0, 0] : List Int32).getD j 0, fun _ => 0, fun _ => 0, fun _ => 0, fun _ => 0, fun _ => 0, fun _ => 0, fun _ => 0, fun _ => 0, fun _ => 0, fun _ => 0, fun _ => 0, fun _ => 0, fun j => ([0, 0, 0, 0, 0, 0, 0, 0, 0, 0, 0, 0, 0, 0, 0] : List Int32).getD j 0, fun _ => 0, fun _ => 0, fun _ => 0, fun _ => 0, fun _ => 0, fun _ => 0, fun _ => 0, fun _ => 0, fun _ => 0, fun _ => 0, fun _ => 0, fun _ => 0, fun j => ([0, 0, 0, 0] : List Int32).getD j 0, fun _ => 0, fun _ => 0, fun _ => 0, fun j => ([0, 0, 0, 0, nI 0, (-5), (-5)] : List Int32).getD j 0, fun _ => 0, fun _ => 0, fun _ => 0, fun j => ([0, 0, 0, 0, 0, 0, nI 0, nI 0, nI 0, nI 0] : List Int32).getD j 0, fun _ => 0, fun _ => 0, fun _ => 0, fun _ => 0, fun _ => 0, fun j => ([0, nI 0, nI 0, (-1)] : List Int32).getD j 0, fun _ => 0, fun j => ([0, 0, 0, 0, 0, 0, 0, 0, nI 0] : List Int32).getD j 0, fun _ => 0, fun _ => 0, fun _ => 0, fun _ => 0, fun _ => 0, fun _ => 0, fun j => ([0, 0, 0] : List Int32).getD j 0, fun _ => 0, fun j => ([0, nI 0] : List Int32).getD j 0, fun _ => 0, fun j => ([0, 0] : List Int32).getD j 0, fun _ => 0, upd (upd (upd (upd (fun _ => 0) 0 ((-1))) 1 ((-1))) 2 ((-1))) 3 ((-1)), fun j => ([0, 0, 0, 0, 0, 0, 0, 0, 0, 0, 0, 0, 0, 0, 0, 0, 0, 0, 0, 0, 0, 0, 0, 0, 0, 0, 0, 0, 0, 0, 0, 0, 0, 0] : List Int32).getD j 0, fun _ => 0, fun _ => 0, upd (upd (upd (upd (fun _ => 0) 0 (nI 104)) 1 (nI 101)) 2 (nI 110)) 3 (nI 112), upd (upd (upd (upd (fun _ => 0) 0 (nI 5)) 1 (nI 3)) 2 (nI 2)) 3 (nI 1), fun _ => 0, fun _ => 0, fun _ => 0, fun _ => 0, fun _ => 0, fun _ => 0, fun _ => 0, fun _ => 0, fun _ => 0, fun _ => 0, fun _ => 0, fun _ => 0, fun _ => 0, upd (upd (upd (upd (fun _ => 0) 0 ((-1))) 1 ((-1))) 2 ((-1))) 3 ((-1)), fun _ => 0] : List (Nat → Int32)).getD k (fun _ => 0)
def fE2 (G : GG) (M : Mm) (k : Nat) : Nat → List (Option Nat) → List Value
  | _, [] => []
  | j, none :: fs => .int (M k j) :: fE2 G M k (j + 1) fs
  | j, some r :: fs => .ref (G.1 r) :: fE2 G M k (j + 1) fs
theorem fE2_ok (G : GG) (M : Mm) (k : Nat) : ∀ (fs : List (Option Nat)) (j : Nat), fs.mapIdx (fun i f => match f with
  | none => Value.int (M k (i + j))
  | some r => Value.ref (G.1 r)) = fE2 G M k j fs
  | [], _ => rfl
  | none :: fs, j => by
    rw [List.mapIdx_cons, fE2, ← fE2_ok G M k fs (j + 1)]
    congr 1
    · rw [Nat.zero_add]
    · congr 1
      funext i f
      cases f with
      | none => rw [show i + 1 + j = i + (j + 1) by omega]
      | some r => rfl
  | some r :: fs, j => by
    rw [List.mapIdx_cons, fE2, ← fE2_ok G M k fs (j + 1)]
    congr 1
    congr 1
    funext i f
    cases f with
    | none => rw [show i + 1 + j = i + (j + 1) by omega]
    | some r => rfl
theorem fE2_eq (G : GG) (M : Mm) (k : Nat) (fs : List (Option Nat)) : fEnt G M k fs = fE2 G M k 0 fs := fE2_ok G M k fs 0
def sE2 (G : GG) (M : Mm) (k : Nat) : Sh → va_E
  | .inl (b, n) => .inl (if b = true then G.2.2.2.2 else G.2.2.2.1, (n, .inl (M k)))
  | .inr (ci, fs) => .inr (ci, fE2 G M k 0 fs)
theorem wl_eq2 (G : GG) (M : Mm) : wl G M = (List.range 77).map (fun k => (G.1 k, sE2 G M k (sh k))) := by
  unfold wl NN
  congr 1
  funext k
  cases sh k with
  | inl a => rfl
  | inr o => rw [sEnt, fE2_eq, sE2]
theorem inv_start : INV M0 := by
  have hW : WF (fun _ _ _ => 0) := ⟨Nat.zero_le _, Nat.zero_le _, fun _ _ => Nat.zero_le _, fun _ _ => rfl, fun _ _ => Nat.zero_le _, fun _ _ _ _ => Nat.zero_le _, fun _ _ => Nat.zero_le _, fun _ _ _ _ => ⟨Nat.zero_le _, Nat.zero_le _, Nat.zero_le _, fun h => absurd h (show ¬ (0 : Nat) = 2 by decide)⟩, fun _ _ => ⟨Nat.zero_le _, Nat.zero_le _, Nat.zero_le _⟩, fun _ _ _ _ => Nat.zero_le _, fun _ _ _ => rfl⟩
  have hBK : BK M0 (fun _ _ _ => 0) := ⟨hW, rfl, rfl, rfl, fun d hd => absurd hd (Nat.not_lt_zero d), fun p hp => absurd hp (Nat.not_lt_zero p), fun p hp => rfl, fun p _ hp => absurd hp (Nat.not_lt_zero p), fun p hp => absurd hp (Nat.not_lt_zero p), fun p _ hp => absurd hp (Nat.not_lt_zero p), fun d hd => absurd hd (Nat.not_lt_zero d), fun p _ hp => absurd hp (Nat.not_lt_zero p)⟩
  have hMK : MK (M0 58) (fun _ _ _ => 0) := ⟨hW, rfl, rfl, rfl, fun p hp => absurd hp (Nat.not_lt_zero p), fun p _ hp => absurd hp (Nat.not_lt_zero p), fun p _ hp => absurd hp (Nat.not_lt_zero p), fun d hd => absurd hd (Nat.not_lt_zero d), fun p _ hp => absurd hp (Nat.not_lt_zero p), fun _ => ⟨0, 0, 0, 0, by decide, by decide, by decide, by decide, rfl, rfl, rfl, fun _ => rfl⟩⟩
  refine ⟨fun _ _ _ => 0, false, fun _ _ _ => 0, 0, fun _ => 0, 0, fun _ => 0, fun d hd => absurd hd (Nat.not_lt_zero d), hBK, hMK, fun h => absurd h (by decide), Nat.zero_le _, fun i hi => absurd hi (Nat.not_lt_zero i), Nat.zero_le _, ⟨rfl, fun h => absurd h (by decide), rfl, fun i hi => absurd hi (Nat.not_lt_zero i), rfl, fun i hi => absurd hi (Nat.not_lt_zero i)⟩, ⟨rfl, fun h => absurd h (by decide), rfl, fun i hi => absurd hi (Nat.not_lt_zero i), rfl, fun i hi => absurd hi (Nat.not_lt_zero i)⟩, ?_, fun i hi => rfl, ?_, ?_⟩
  · have h : ∀ l, l < 4 → M0 75 l = M0 56 l ∧ M0 56 l = -1 := by decide +kernel
    exact fun l hl => ⟨(h l hl).1, Or.inl (h l hl).2⟩
  · decide +kernel
  · decide +kernel
set_option maxRecDepth 20000 in
set_option maxHeartbeats 4000000 in
theorem wl_start (f : Nat → Nat) (D1 : Nat → ClassId) (D2 : Nat → Nat → Nat) (cI cZ : ClassId) (x0 u0 u1 u2 u3 u4 u5 u6 u7 u8 u9 u10 u11 u12 u15 u16 u17 u18 u19 u20 u21 u22 u23 u24 u25 u26 u27 u28 u29 u30 u31 u32 u33 u34 u35 u36 u37 u38 u39 u40 u41 u13 u14 u42 u43 u44 u45 u46 u47 u48 u49 u50 u51 u52 u53 u54 u55 m0 v0 v1 v2 v3 v4 v5 v6 v7 v8 v9 v10 v11 v12 v13 v14 v15 v16 v17 v18 : Nat) : wl (fun k => if k < NN then ([x0, u0, u1, u2, u3, u4, u5, u6, u7, u8, u9, u10, u11, u12, u15, u16, u17, u18, u19, u20, u21, u22, u23, u24, u25, u26, u27, u28, u29, u30, u31, u32, u33, u34, u35, u36, u37, u38, u39, u40, u41, u13, u14, u42, u43, u44, u45, u46, u47, u48, u49, u50, u51, u52, u53, u54, u55, m0, v0, v1, v2, v3, v4, v5, v6, v7, v8, v9, v10, v11, v12, v13, v14, v15, v16, v17, v18] : List Nat).getD k 0 else f (k - NN), D1, D2, cI, cZ) M0 = [(x0, .inr (9, [.ref u0, .ref u15, .int (nI 0), .ref u28, .ref u32, .ref u36, .ref u13, .ref u42, .ref u49, .ref u51, .ref u53])), (u0, .inr (0, [.int 0, .int 0, .int 0, .ref u1, .ref u2, .ref u3, .ref u4, .ref u5, .ref u6, .ref u7, .ref u8, .ref u9, .ref u10, .ref u11, .ref u12])), (u1, .inl (cI, 24, .inl (fun _ => 0))), (u2, .inl (cI, 8, .inl (fun _ => 0))), (u3, .inl (cZ, 8, .inl (fun _ => 0))), (u4, .inl (cI, 32, .inl (fun _ => 0))), (u5, .inl (cI, 8, .inl (fun _ => 0))), (u6, .inl (cI, 64, .inl (fun _ => 0))), (u7, .inl (cI, 64, .inl (fun _ => 0))), (u8, .inl (cI, 64, .inl (fun _ => 0))), (u9, .inl (cI, 24, .inl (fun _ => 0))), (u10, .inl (cI, 24, .inl (fun _ => 0))), (u11, .inl (cI, 24, .inl (fun _ => 0))), (u12, .inl (cI, 192, .inl (fun _ => 0))), (u15, .inr (0, [.int 0, .int 0, .int 0, .ref u16, .ref u17, .ref u18, .ref u19, .ref u20, .ref u21, .ref u22, .ref u23, .ref u24, .ref u25, .ref u26, .ref u27])), (u16, .inl (cI, 24, .inl (fun _ => 0))), (u17, .inl (cI, 8, .inl (fun _ => 0))), (u18, .inl (cZ, 8, .inl (fun _ => 0))), (u19, .inl (cI, 32, .inl (fun _ => 0))), (u20, .inl (cI, 8, .inl (fun _ => 0))), (u21, .inl (cI, 64, .inl (fun _ => 0))), (u22, .inl (cI, 64, .inl (fun _ => 0))), (u23, .inl (cI, 64, .inl (fun _ => 0))), (u24, .inl (cI, 24, .inl (fun _ => 0))), (u25, .inl (cI, 24, .inl (fun _ => 0))), (u26, .inl (cI, 24, .inl (fun _ => 0))), (u27, .inl (cI, 192, .inl (fun _ => 0))), (u28, .inr (2, [.ref u0, .ref u29, .ref u30, .ref u31])), (u29, .inl (cI, 8, .inl (fun _ => 0))), (u30, .inl (cI, 8, .inl (fun _ => 0))), (u31, .inl (cI, 8, .inl (fun _ => 0))), (u32, .inr (4, [.ref u0, .ref u33, .ref u34, .ref u35, .int (nI 0), .int ((-5)), .int ((-5))])), (u33, .inl (cI, 8, .inl (fun _ => 0))), (u34, .inl (cI, 8, .inl (fun _ => 0))), (u35, .inl (cZ, 8, .inl (fun _ => 0))), (u36, .inr (5, [.ref u0, .ref u37, .ref u38, .ref u39, .ref u40, .ref u41, .int (nI 0), .int (nI 0), .int (nI 0), .int (nI 0)])), (u37, .inl (cI, 24, .inl (fun _ => 0))), (u38, .inl (cI, 24, .inl (fun _ => 0))), (u39, .inl (cI, 576, .inl (fun _ => 0))), (u40, .inl (cI, 4, .inl (fun _ => 0))), (u41, .inl (cI, 4, .inl (fun _ => 0))), (u13, .inr (7, [.ref u14, .int (nI 0), .int (nI 0), .int ((-1))])), (u14, .inl (cI, 150, .inl (fun _ => 0))), (u42, .inr (8, [.ref u0, .ref u13, .ref u43, .ref u44, .ref u45, .ref u46, .ref u47, .ref u48, .int (nI 0)])), (u43, .inl (cI, 8, .inl (fun _ => 0))), (u44, .inl (cI, 8, .inl (fun _ => 0))), (u45, .inl (cI, 8, .inl (fun _ => 0))), (u46, .inl (cI, 24, .inl (fun _ => 0))), (u47, .inl (cI, 24, .inl (fun _ => 0))), (u48, .inl (cI, 24, .inl (fun _ => 0))), (u49, .inr (1, [.ref u0, .ref u13, .ref u50])), (u50, .inl (cI, 6, .inl (fun _ => 0))), (u51, .inr (3, [.ref u52, .int (nI 0)])), (u52, .inl (cI, 168, .inl (fun _ => 0))), (u53, .inr (6, [.ref u54, .ref u55])), (u54, .inl (cI, 120, .inl (fun _ => 0))), (u55, .inl (cI, 4, .inl (upd (upd (upd (upd (fun _ => 0) 0 ((-1))) 1 ((-1))) 2 ((-1))) 3 ((-1))))), (m0, .inr (10, [.ref v0, .ref v1, .int 0, .ref v2, .ref v3, .ref v4, .ref v5, .int 0, .ref v6, .ref v7, .ref v8, .int 0, .int 0, .int 0, .ref v9, .ref v10, .int 0, .int 0, .ref v11, .int 0, .int 0, .int 0, .int 0, .ref v12, .int 0, .int 0, .int 0, .ref v13, .ref v14, .ref v15, .ref v16, .int 0, .ref v17, .ref v18])), (v0, .inl (cI, 515, .inl (fun _ => 0))), (v1, .inl (cI, 515, .inl (fun _ => 0))), (v2, .inl (cI, 4, .inl (upd (upd (upd (upd (fun _ => 0) 0 (nI 104)) 1 (nI 101)) 2 (nI 110)) 3 (nI 112)))), (v3, .inl (cI, 4, .inl (upd (upd (upd (upd (fun _ => 0) 0 (nI 5)) 1 (nI 3)) 2 (nI 2)) 3 (nI 1)))), (v4, .inl (cI, 24, .inl (fun _ => 0))), (v5, .inl (cI, 8, .inl (fun _ => 0))), (v6, .inl (cI, 8, .inl (fun _ => 0))), (v7, .inl (cZ, 8, .inl (fun _ => 0))), (v8, .inl (cI, 8, .inl (fun _ => 0))), (v9, .inl (cI, 4, .inl (fun _ => 0))), (v10, .inl (cI, 4, .inl (fun _ => 0))), (v11, .inl (cI, 150, .inl (fun _ => 0))), (v12, .inl (cI, 72, .inl (fun _ => 0))), (v13, .inl (cI, 24, .inl (fun _ => 0))), (v14, .inl (cI, 24, .inl (fun _ => 0))), (v15, .inl (cI, 8, .inl (fun _ => 0))), (v16, .inl (cI, 168, .inl (fun _ => 0))), (v17, .inl (cI, 4, .inl (upd (upd (upd (upd (fun _ => 0) 0 ((-1))) 1 ((-1))) 2 ((-1))) 3 ((-1))))), (v18, .inl (cI, 120, .inl (fun _ => 0)))] := by
  rw [wl_eq2]
  rfl
theorem k_known {args : Array Value} {s : State} (hT : ∀ w ∈ TB, w.before args s = true) : ∃ D : va_G, ∀ (c : Nat) (q : vw_C), vwCl[c]? = some q → u_Kn s q.1 q.2.1 q.2.2 (D.1 c) (D.2 c) := by
  have hk : ∀ {ci N : Nat} {C : String} {T : u_T}, gCl ci C T N → Cond.instantiable C N ∈ TB → ∃ z : ClassId × (Nat → Nat), ∀ q : vw_C, vwCl[ci]? = some q → u_Kn s q.1 q.2.1 q.2.2 z.1 z.2 := by
    intro ci N C T hg hi
    obtain ⟨cC, iS, h⟩ := u_known (C := C) (T := T) (N := N) (n := N) hT hg.2.1 (hT _ hi)
    exact ⟨(cC, iS), fun q hq => by rw [hg.1] at hq; cases hq; exact h⟩
  have h0 : ∀ k : Nat, ∃ z : ClassId × (Nat → Nat), ∀ q : vw_C, vwCl[k]? = some q → u_Kn s q.1 q.2.1 q.2.2 z.1 z.2 := by
    intro k
    match k with
    | 0 => exact hk gc0 tw127
    | 1 => exact hk gc1 tw331
    | 2 => exact hk gc2 tw213
    | 3 => exact hk gc3 tw347
    | 4 => exact hk gc4 tw232
    | 5 => exact hk gc5 tw260
    | 6 => exact hk gc6 tw360
    | 7 => exact hk gc7 tw194
    | 8 => exact hk gc8 tw297
    | 9 => exact hk gc9 tw119
    | 10 => exact hk gc10 tw1222
    | k + 11 =>
      obtain ⟨z, -⟩ := hk gc0 tw127
      exact ⟨z, fun q hq => by simp [vwCl] at hq⟩
  obtain ⟨g, hg⟩ := Classical.axiomOfChoice h0
  exact ⟨(fun k => (g k).1, fun k => (g k).2), hg⟩
theorem mz_perm {m : Me} {R : Room} {D : va_G} {A : Nat → Prop} {p : Program} {l : Launch} {e : Env} {s : State} {mi : MethodId} {args : Array Value} {below : List Frame} {meth : Method} {c : Code} {Q : State → Prop} {pc : Nat} {ls : List (Nat × Value)} {st : List Value} {ws w2 : va_W} {n k : Nat} (is : List Nat) (h1 : is.filterMap (fun i => ws[i]?) = w2) (h2 : is.map (fun i => ws[i]?) = w2.map some) (hn : va_nd is = true) (kk : Mz m R D A p l e s mi args below meth c Q pc ls st w2 n k) : Mz m R D A p l e s mi args below meth c Q pc ls st ws n k :=
  fun H locs arr hP hD hS hl => kk H locs arr (hP.sub is h1) (hD.sub is hn h2) hS hl
set_option maxRecDepth 20000 in
set_option maxHeartbeats 8000000 in
theorem whole_start {p : Program} {e : Env} {s : State} {m : MethodId} {below : List Frame} {meth : Method} {c : Code} (l : Launch) (hflags : l.flags = flags0) {b L : Nat} {xs : Nat → Int32} (hL : L ≤ 2048) (C0 : lw_At p s m meth c b L xs) : W p l e room_1 s m #[Value.ref b] below meth c s.heap [] 0 0 (lw_Z below #[Value.ref b] s) (entryFrame m ([Value.ref b] : List Value).toArray 4) := by
  obtain ⟨hx, hb, hr, hml, hown, hts, hX, hbl, hlocks, hgv⟩ := C0
  have hT : ∀ w ∈ TB, w.before #[Value.ref b] s = true := fun w hw => hts w (List.mem_filter.mp hw).1
  obtain ⟨cI, hI1, hI2⟩ := k_arrI (hT _ tq190)
  obtain ⟨cZ, hZ1, hZ2⟩ := k_arrZ (hT _ tq191)
  obtain ⟨⟨D1, D2⟩, hDk⟩ := k_known hT
  have hK : va_K (D1, D2) vwCl (zT cI cZ) s := by
    refine ⟨hDk, fun k q h => ?_⟩
    match k, h with
    | 0, h => cases h; exact ⟨hI1, hI2⟩
    | 1, h => cases h; exact ⟨hZ1, hZ2⟩
    | k + 2, h => simp [zT] at h
  have CC : zC mLw (D1, D2) cI cZ (fun q => s.heap.size ≤ q) p s m #[Value.ref b] meth c := ⟨⟨hx, hb, hr, hml, hown, hT, hlocks⟩, hK, fun _ h => h⟩
  have hN : va_Nw (.methodLinkNest "FairTurns" 9 yX0_init "FairTurns") s := va_Nw.of rfl (hts _ (List.mem_of_getElem? ts2.2.2.2.2.2))
  obtain ⟨f, hf⟩ := gs_start (A := fun q => s.heap.size ≤ q) hts hgv (fun a h => Nat.not_le.mpr h)
  suffices hmk : Mz mLw room_1 (D1, D2) (fun q => s.heap.size ≤ q) p l e s m #[Value.ref b] below meth c (lw_Z below #[Value.ref b] s) 0 [(0, .ref b)] [] [] 0 0 by
    rw [lg_entry_eq]
    exact hmk s.heap [] _ (fun k q h => by simp at h) ⟨fun i j p q h => by simp at h, fun k q h => by simp at h⟩ va_S.rf (lv_entry ([.ref b]) (n := 4) (Nat.le_of_ble_eq_true rfl))
  refine mz_new (m := mLw) CC [.null, .null, .int 0, .null, .null, .null, .null, .null, .null, .null, .null] tyX9 gc9 dL_law_0 tyX9_ok tw118 tw119 ti_FairTurns (by decide +kernel) (Nat.le_of_ble_eq_true rfl) (Nat.le_of_ble_eq_true rfl) (fun x0 => ?_)
  refine Mz.eqw (w2 := [(x0, .inr (9, [.null, .null, .int 0, .null, .null, .null, .null, .null, .null, .null, .null]))]) rfl ?_
  refine mz_dup (m := mLw) CC dL_law_3 ?_
  refine mz_call (m := mLw) CC (wr := []) [0] [] dL_law_4 (mk_F x0) (fun U U2 h hx => va_Nw.same rfl h.symm hx) (fun U hW => va_Nw.warmM hW hN) rfl rfl rfl rfl rfl (by decide) ⟨tw122, ti_FairTurns, by decide, by decide⟩ ml_Law_9 tw121 rfl rfl (by show _ = some 0; decide +kernel) rfl rfl ⟨Nat.le_of_ble_eq_true rfl, Nat.le_of_ble_eq_true rfl⟩ rfl rfl ⟨Nat.le_of_ble_eq_true rfl, Nat.le_of_ble_eq_true rfl⟩ (fun w1 hw => ?_)
  obtain ⟨u0, u1, u2, u3, u4, u5, u6, u7, u8, u9, u10, u11, u12, u13, u14, u15, u16, u17, u18, u19, u20, u21, u22, u23, u24, u25, u26, u27, u28, u29, u30, u31, u32, u33, u34, u35, u36, u37, u38, u39, u40, u41, u42, u43, u44, u45, u46, u47, u48, u49, u50, u51, u52, u53, u54, u55, rfl⟩ := hw
  refine Mz.eqw (w2 := [(x0, .inr (9, [.ref u0, .ref u15, .int (nI 0), .ref u28, .ref u32, .ref u36, .ref u13, .ref u42, .ref u49, .ref u51, .ref u53])), (u0, .inr (0, [.int 0, .int 0, .int 0, .ref u1, .ref u2, .ref u3, .ref u4, .ref u5, .ref u6, .ref u7, .ref u8, .ref u9, .ref u10, .ref u11, .ref u12])), (u1, .inl (cI, 24, .inl (fun _ => 0))), (u2, .inl (cI, 8, .inl (fun _ => 0))), (u3, .inl (cZ, 8, .inl (fun _ => 0))), (u4, .inl (cI, 32, .inl (fun _ => 0))), (u5, .inl (cI, 8, .inl (fun _ => 0))), (u6, .inl (cI, 64, .inl (fun _ => 0))), (u7, .inl (cI, 64, .inl (fun _ => 0))), (u8, .inl (cI, 64, .inl (fun _ => 0))), (u9, .inl (cI, 24, .inl (fun _ => 0))), (u10, .inl (cI, 24, .inl (fun _ => 0))), (u11, .inl (cI, 24, .inl (fun _ => 0))), (u12, .inl (cI, 192, .inl (fun _ => 0))), (u13, .inr (7, [.ref u14, .int (nI 0), .int (nI 0), .int ((-1))])), (u14, .inl (cI, 150, .inl (fun _ => 0))), (u15, .inr (0, [.int 0, .int 0, .int 0, .ref u16, .ref u17, .ref u18, .ref u19, .ref u20, .ref u21, .ref u22, .ref u23, .ref u24, .ref u25, .ref u26, .ref u27])), (u16, .inl (cI, 24, .inl (fun _ => 0))), (u17, .inl (cI, 8, .inl (fun _ => 0))), (u18, .inl (cZ, 8, .inl (fun _ => 0))), (u19, .inl (cI, 32, .inl (fun _ => 0))), (u20, .inl (cI, 8, .inl (fun _ => 0))), (u21, .inl (cI, 64, .inl (fun _ => 0))), (u22, .inl (cI, 64, .inl (fun _ => 0))), (u23, .inl (cI, 64, .inl (fun _ => 0))), (u24, .inl (cI, 24, .inl (fun _ => 0))), (u25, .inl (cI, 24, .inl (fun _ => 0))), (u26, .inl (cI, 24, .inl (fun _ => 0))), (u27, .inl (cI, 192, .inl (fun _ => 0))), (u28, .inr (2, [.ref u0, .ref u29, .ref u30, .ref u31])), (u29, .inl (cI, 8, .inl (fun _ => 0))), (u30, .inl (cI, 8, .inl (fun _ => 0))), (u31, .inl (cI, 8, .inl (fun _ => 0))), (u32, .inr (4, [.ref u0, .ref u33, .ref u34, .ref u35, .int (nI 0), .int ((-5)), .int ((-5))])), (u33, .inl (cI, 8, .inl (fun _ => 0))), (u34, .inl (cI, 8, .inl (fun _ => 0))), (u35, .inl (cZ, 8, .inl (fun _ => 0))), (u36, .inr (5, [.ref u0, .ref u37, .ref u38, .ref u39, .ref u40, .ref u41, .int (nI 0), .int (nI 0), .int (nI 0), .int (nI 0)])), (u37, .inl (cI, 24, .inl (fun _ => 0))), (u38, .inl (cI, 24, .inl (fun _ => 0))), (u39, .inl (cI, 576, .inl (fun _ => 0))), (u40, .inl (cI, 4, .inl (fun _ => 0))), (u41, .inl (cI, 4, .inl (fun _ => 0))), (u42, .inr (8, [.ref u0, .ref u13, .ref u43, .ref u44, .ref u45, .ref u46, .ref u47, .ref u48, .int (nI 0)])), (u43, .inl (cI, 8, .inl (fun _ => 0))), (u44, .inl (cI, 8, .inl (fun _ => 0))), (u45, .inl (cI, 8, .inl (fun _ => 0))), (u46, .inl (cI, 24, .inl (fun _ => 0))), (u47, .inl (cI, 24, .inl (fun _ => 0))), (u48, .inl (cI, 24, .inl (fun _ => 0))), (u49, .inr (1, [.ref u0, .ref u13, .ref u50])), (u50, .inl (cI, 6, .inl (fun _ => 0))), (u51, .inr (3, [.ref u52, .int (nI 0)])), (u52, .inl (cI, 168, .inl (fun _ => 0))), (u53, .inr (6, [.ref u54, .ref u55])), (u54, .inl (cI, 120, .inl (fun _ => 0))), (u55, .inl (cI, 4, .inl (upd (upd (upd (upd (fun _ => 0) 0 ((-1))) 1 ((-1))) 2 ((-1))) 3 ((-1)))))]) rfl ?_
  refine mz_astore (m := mLw) (lt := [(1, .ref x0), (0, .ref b)]) CC dL_law_7 (Nat.le_of_ble_eq_true rfl) rfl ?_
  refine mz_new (m := mLw) CC [.null, .null, .int 0, .null, .null, .null, .null, .int 0, .null, .null, .null, .int 0, .int 0, .int 0, .null, .null, .int 0, .int 0, .null, .int 0, .int 0, .int 0, .int 0, .null, .int 0, .int 0, .int 0, .null, .null, .null, .null, .int 0, .null, .null] tyX10 gc10 dL_law_8 tyX10_ok tw1221 tw1222 ti_FairTurnsModel (by decide +kernel) (Nat.le_of_ble_eq_true rfl) (Nat.le_of_ble_eq_true rfl) (fun m0 => ?_)
  refine Mz.eqw (w2 := [(x0, .inr (9, [.ref u0, .ref u15, .int (nI 0), .ref u28, .ref u32, .ref u36, .ref u13, .ref u42, .ref u49, .ref u51, .ref u53])), (u0, .inr (0, [.int 0, .int 0, .int 0, .ref u1, .ref u2, .ref u3, .ref u4, .ref u5, .ref u6, .ref u7, .ref u8, .ref u9, .ref u10, .ref u11, .ref u12])), (u1, .inl (cI, 24, .inl (fun _ => 0))), (u2, .inl (cI, 8, .inl (fun _ => 0))), (u3, .inl (cZ, 8, .inl (fun _ => 0))), (u4, .inl (cI, 32, .inl (fun _ => 0))), (u5, .inl (cI, 8, .inl (fun _ => 0))), (u6, .inl (cI, 64, .inl (fun _ => 0))), (u7, .inl (cI, 64, .inl (fun _ => 0))), (u8, .inl (cI, 64, .inl (fun _ => 0))), (u9, .inl (cI, 24, .inl (fun _ => 0))), (u10, .inl (cI, 24, .inl (fun _ => 0))), (u11, .inl (cI, 24, .inl (fun _ => 0))), (u12, .inl (cI, 192, .inl (fun _ => 0))), (u13, .inr (7, [.ref u14, .int (nI 0), .int (nI 0), .int ((-1))])), (u14, .inl (cI, 150, .inl (fun _ => 0))), (u15, .inr (0, [.int 0, .int 0, .int 0, .ref u16, .ref u17, .ref u18, .ref u19, .ref u20, .ref u21, .ref u22, .ref u23, .ref u24, .ref u25, .ref u26, .ref u27])), (u16, .inl (cI, 24, .inl (fun _ => 0))), (u17, .inl (cI, 8, .inl (fun _ => 0))), (u18, .inl (cZ, 8, .inl (fun _ => 0))), (u19, .inl (cI, 32, .inl (fun _ => 0))), (u20, .inl (cI, 8, .inl (fun _ => 0))), (u21, .inl (cI, 64, .inl (fun _ => 0))), (u22, .inl (cI, 64, .inl (fun _ => 0))), (u23, .inl (cI, 64, .inl (fun _ => 0))), (u24, .inl (cI, 24, .inl (fun _ => 0))), (u25, .inl (cI, 24, .inl (fun _ => 0))), (u26, .inl (cI, 24, .inl (fun _ => 0))), (u27, .inl (cI, 192, .inl (fun _ => 0))), (u28, .inr (2, [.ref u0, .ref u29, .ref u30, .ref u31])), (u29, .inl (cI, 8, .inl (fun _ => 0))), (u30, .inl (cI, 8, .inl (fun _ => 0))), (u31, .inl (cI, 8, .inl (fun _ => 0))), (u32, .inr (4, [.ref u0, .ref u33, .ref u34, .ref u35, .int (nI 0), .int ((-5)), .int ((-5))])), (u33, .inl (cI, 8, .inl (fun _ => 0))), (u34, .inl (cI, 8, .inl (fun _ => 0))), (u35, .inl (cZ, 8, .inl (fun _ => 0))), (u36, .inr (5, [.ref u0, .ref u37, .ref u38, .ref u39, .ref u40, .ref u41, .int (nI 0), .int (nI 0), .int (nI 0), .int (nI 0)])), (u37, .inl (cI, 24, .inl (fun _ => 0))), (u38, .inl (cI, 24, .inl (fun _ => 0))), (u39, .inl (cI, 576, .inl (fun _ => 0))), (u40, .inl (cI, 4, .inl (fun _ => 0))), (u41, .inl (cI, 4, .inl (fun _ => 0))), (u42, .inr (8, [.ref u0, .ref u13, .ref u43, .ref u44, .ref u45, .ref u46, .ref u47, .ref u48, .int (nI 0)])), (u43, .inl (cI, 8, .inl (fun _ => 0))), (u44, .inl (cI, 8, .inl (fun _ => 0))), (u45, .inl (cI, 8, .inl (fun _ => 0))), (u46, .inl (cI, 24, .inl (fun _ => 0))), (u47, .inl (cI, 24, .inl (fun _ => 0))), (u48, .inl (cI, 24, .inl (fun _ => 0))), (u49, .inr (1, [.ref u0, .ref u13, .ref u50])), (u50, .inl (cI, 6, .inl (fun _ => 0))), (u51, .inr (3, [.ref u52, .int (nI 0)])), (u52, .inl (cI, 168, .inl (fun _ => 0))), (u53, .inr (6, [.ref u54, .ref u55])), (u54, .inl (cI, 120, .inl (fun _ => 0))), (u55, .inl (cI, 4, .inl (upd (upd (upd (upd (fun _ => 0) 0 ((-1))) 1 ((-1))) 2 ((-1))) 3 ((-1))))), (m0, .inr (10, [.null, .null, .int 0, .null, .null, .null, .null, .int 0, .null, .null, .null, .int 0, .int 0, .int 0, .null, .null, .int 0, .int 0, .null, .int 0, .int 0, .int 0, .int 0, .null, .int 0, .int 0, .int 0, .null, .null, .null, .null, .int 0, .null, .null]))]) rfl ?_
  refine mz_dup (m := mLw) CC dL_law_11 ?_
  refine mz_call (m := mLw) CC (wr := [(x0, .inr (9, [.ref u0, .ref u15, .int (nI 0), .ref u28, .ref u32, .ref u36, .ref u13, .ref u42, .ref u49, .ref u51, .ref u53])), (u0, .inr (0, [.int 0, .int 0, .int 0, .ref u1, .ref u2, .ref u3, .ref u4, .ref u5, .ref u6, .ref u7, .ref u8, .ref u9, .ref u10, .ref u11, .ref u12])), (u1, .inl (cI, 24, .inl (fun _ => 0))), (u2, .inl (cI, 8, .inl (fun _ => 0))), (u3, .inl (cZ, 8, .inl (fun _ => 0))), (u4, .inl (cI, 32, .inl (fun _ => 0))), (u5, .inl (cI, 8, .inl (fun _ => 0))), (u6, .inl (cI, 64, .inl (fun _ => 0))), (u7, .inl (cI, 64, .inl (fun _ => 0))), (u8, .inl (cI, 64, .inl (fun _ => 0))), (u9, .inl (cI, 24, .inl (fun _ => 0))), (u10, .inl (cI, 24, .inl (fun _ => 0))), (u11, .inl (cI, 24, .inl (fun _ => 0))), (u12, .inl (cI, 192, .inl (fun _ => 0))), (u13, .inr (7, [.ref u14, .int (nI 0), .int (nI 0), .int ((-1))])), (u14, .inl (cI, 150, .inl (fun _ => 0))), (u15, .inr (0, [.int 0, .int 0, .int 0, .ref u16, .ref u17, .ref u18, .ref u19, .ref u20, .ref u21, .ref u22, .ref u23, .ref u24, .ref u25, .ref u26, .ref u27])), (u16, .inl (cI, 24, .inl (fun _ => 0))), (u17, .inl (cI, 8, .inl (fun _ => 0))), (u18, .inl (cZ, 8, .inl (fun _ => 0))), (u19, .inl (cI, 32, .inl (fun _ => 0))), (u20, .inl (cI, 8, .inl (fun _ => 0))), (u21, .inl (cI, 64, .inl (fun _ => 0))), (u22, .inl (cI, 64, .inl (fun _ => 0))), (u23, .inl (cI, 64, .inl (fun _ => 0))), (u24, .inl (cI, 24, .inl (fun _ => 0))), (u25, .inl (cI, 24, .inl (fun _ => 0))), (u26, .inl (cI, 24, .inl (fun _ => 0))), (u27, .inl (cI, 192, .inl (fun _ => 0))), (u28, .inr (2, [.ref u0, .ref u29, .ref u30, .ref u31])), (u29, .inl (cI, 8, .inl (fun _ => 0))), (u30, .inl (cI, 8, .inl (fun _ => 0))), (u31, .inl (cI, 8, .inl (fun _ => 0))), (u32, .inr (4, [.ref u0, .ref u33, .ref u34, .ref u35, .int (nI 0), .int ((-5)), .int ((-5))])), (u33, .inl (cI, 8, .inl (fun _ => 0))), (u34, .inl (cI, 8, .inl (fun _ => 0))), (u35, .inl (cZ, 8, .inl (fun _ => 0))), (u36, .inr (5, [.ref u0, .ref u37, .ref u38, .ref u39, .ref u40, .ref u41, .int (nI 0), .int (nI 0), .int (nI 0), .int (nI 0)])), (u37, .inl (cI, 24, .inl (fun _ => 0))), (u38, .inl (cI, 24, .inl (fun _ => 0))), (u39, .inl (cI, 576, .inl (fun _ => 0))), (u40, .inl (cI, 4, .inl (fun _ => 0))), (u41, .inl (cI, 4, .inl (fun _ => 0))), (u42, .inr (8, [.ref u0, .ref u13, .ref u43, .ref u44, .ref u45, .ref u46, .ref u47, .ref u48, .int (nI 0)])), (u43, .inl (cI, 8, .inl (fun _ => 0))), (u44, .inl (cI, 8, .inl (fun _ => 0))), (u45, .inl (cI, 8, .inl (fun _ => 0))), (u46, .inl (cI, 24, .inl (fun _ => 0))), (u47, .inl (cI, 24, .inl (fun _ => 0))), (u48, .inl (cI, 24, .inl (fun _ => 0))), (u49, .inr (1, [.ref u0, .ref u13, .ref u50])), (u50, .inl (cI, 6, .inl (fun _ => 0))), (u51, .inr (3, [.ref u52, .int (nI 0)])), (u52, .inl (cI, 168, .inl (fun _ => 0))), (u53, .inr (6, [.ref u54, .ref u55])), (u54, .inl (cI, 120, .inl (fun _ => 0))), (u55, .inl (cI, 4, .inl (upd (upd (upd (upd (fun _ => 0) 0 ((-1))) 1 ((-1))) 2 ((-1))) 3 ((-1)))))]) [57] [0, 1, 2, 3, 4, 5, 6, 7, 8, 9, 10, 11, 12, 13, 14, 15, 16, 17, 18, 19, 20, 21, 22, 23, 24, 25, 26, 27, 28, 29, 30, 31, 32, 33, 34, 35, 36, 37, 38, 39, 40, 41, 42, 43, 44, 45, 46, 47, 48, 49, 50, 51, 52, 53, 54, 55, 56] dL_law_12 (mk_M m0) (fun _ _ _ h => h) (fun _ _ => trivial) rfl rfl rfl rfl rfl (by decide) ⟨tw1225, ti_FairTurnsModel, by decide, by decide⟩ ml_Law_12 tw1224 rfl rfl (by show _ = some 0; decide +kernel) rfl rfl ⟨Nat.le_of_ble_eq_true rfl, Nat.le_of_ble_eq_true rfl⟩ rfl rfl ⟨Nat.le_of_ble_eq_true rfl, Nat.le_of_ble_eq_true rfl⟩ (fun w1 hw => ?_)
  obtain ⟨v0, v1, v2, v3, v4, v5, v6, v7, v8, v9, v10, v11, v12, v13, v14, v15, v16, v17, v18, rfl⟩ := hw
  refine Mz.eqw (w2 := [(x0, .inr (9, [.ref u0, .ref u15, .int (nI 0), .ref u28, .ref u32, .ref u36, .ref u13, .ref u42, .ref u49, .ref u51, .ref u53])), (u0, .inr (0, [.int 0, .int 0, .int 0, .ref u1, .ref u2, .ref u3, .ref u4, .ref u5, .ref u6, .ref u7, .ref u8, .ref u9, .ref u10, .ref u11, .ref u12])), (u1, .inl (cI, 24, .inl (fun _ => 0))), (u2, .inl (cI, 8, .inl (fun _ => 0))), (u3, .inl (cZ, 8, .inl (fun _ => 0))), (u4, .inl (cI, 32, .inl (fun _ => 0))), (u5, .inl (cI, 8, .inl (fun _ => 0))), (u6, .inl (cI, 64, .inl (fun _ => 0))), (u7, .inl (cI, 64, .inl (fun _ => 0))), (u8, .inl (cI, 64, .inl (fun _ => 0))), (u9, .inl (cI, 24, .inl (fun _ => 0))), (u10, .inl (cI, 24, .inl (fun _ => 0))), (u11, .inl (cI, 24, .inl (fun _ => 0))), (u12, .inl (cI, 192, .inl (fun _ => 0))), (u13, .inr (7, [.ref u14, .int (nI 0), .int (nI 0), .int ((-1))])), (u14, .inl (cI, 150, .inl (fun _ => 0))), (u15, .inr (0, [.int 0, .int 0, .int 0, .ref u16, .ref u17, .ref u18, .ref u19, .ref u20, .ref u21, .ref u22, .ref u23, .ref u24, .ref u25, .ref u26, .ref u27])), (u16, .inl (cI, 24, .inl (fun _ => 0))), (u17, .inl (cI, 8, .inl (fun _ => 0))), (u18, .inl (cZ, 8, .inl (fun _ => 0))), (u19, .inl (cI, 32, .inl (fun _ => 0))), (u20, .inl (cI, 8, .inl (fun _ => 0))), (u21, .inl (cI, 64, .inl (fun _ => 0))), (u22, .inl (cI, 64, .inl (fun _ => 0))), (u23, .inl (cI, 64, .inl (fun _ => 0))), (u24, .inl (cI, 24, .inl (fun _ => 0))), (u25, .inl (cI, 24, .inl (fun _ => 0))), (u26, .inl (cI, 24, .inl (fun _ => 0))), (u27, .inl (cI, 192, .inl (fun _ => 0))), (u28, .inr (2, [.ref u0, .ref u29, .ref u30, .ref u31])), (u29, .inl (cI, 8, .inl (fun _ => 0))), (u30, .inl (cI, 8, .inl (fun _ => 0))), (u31, .inl (cI, 8, .inl (fun _ => 0))), (u32, .inr (4, [.ref u0, .ref u33, .ref u34, .ref u35, .int (nI 0), .int ((-5)), .int ((-5))])), (u33, .inl (cI, 8, .inl (fun _ => 0))), (u34, .inl (cI, 8, .inl (fun _ => 0))), (u35, .inl (cZ, 8, .inl (fun _ => 0))), (u36, .inr (5, [.ref u0, .ref u37, .ref u38, .ref u39, .ref u40, .ref u41, .int (nI 0), .int (nI 0), .int (nI 0), .int (nI 0)])), (u37, .inl (cI, 24, .inl (fun _ => 0))), (u38, .inl (cI, 24, .inl (fun _ => 0))), (u39, .inl (cI, 576, .inl (fun _ => 0))), (u40, .inl (cI, 4, .inl (fun _ => 0))), (u41, .inl (cI, 4, .inl (fun _ => 0))), (u42, .inr (8, [.ref u0, .ref u13, .ref u43, .ref u44, .ref u45, .ref u46, .ref u47, .ref u48, .int (nI 0)])), (u43, .inl (cI, 8, .inl (fun _ => 0))), (u44, .inl (cI, 8, .inl (fun _ => 0))), (u45, .inl (cI, 8, .inl (fun _ => 0))), (u46, .inl (cI, 24, .inl (fun _ => 0))), (u47, .inl (cI, 24, .inl (fun _ => 0))), (u48, .inl (cI, 24, .inl (fun _ => 0))), (u49, .inr (1, [.ref u0, .ref u13, .ref u50])), (u50, .inl (cI, 6, .inl (fun _ => 0))), (u51, .inr (3, [.ref u52, .int (nI 0)])), (u52, .inl (cI, 168, .inl (fun _ => 0))), (u53, .inr (6, [.ref u54, .ref u55])), (u54, .inl (cI, 120, .inl (fun _ => 0))), (u55, .inl (cI, 4, .inl (upd (upd (upd (upd (fun _ => 0) 0 ((-1))) 1 ((-1))) 2 ((-1))) 3 ((-1))))), (m0, .inr (10, [.ref v0, .ref v1, .int 0, .ref v2, .ref v3, .ref v4, .ref v5, .int 0, .ref v6, .ref v7, .ref v8, .int 0, .int 0, .int 0, .ref v9, .ref v10, .int 0, .int 0, .ref v11, .int 0, .int 0, .int 0, .int 0, .ref v12, .int 0, .int 0, .int 0, .ref v13, .ref v14, .ref v15, .ref v16, .int 0, .ref v17, .ref v18])), (v0, .inl (cI, 515, .inl (fun _ => 0))), (v1, .inl (cI, 515, .inl (fun _ => 0))), (v2, .inl (cI, 4, .inl (upd (upd (upd (upd (fun _ => 0) 0 (nI 104)) 1 (nI 101)) 2 (nI 110)) 3 (nI 112)))), (v3, .inl (cI, 4, .inl (upd (upd (upd (upd (fun _ => 0) 0 (nI 5)) 1 (nI 3)) 2 (nI 2)) 3 (nI 1)))), (v4, .inl (cI, 24, .inl (fun _ => 0))), (v5, .inl (cI, 8, .inl (fun _ => 0))), (v6, .inl (cI, 8, .inl (fun _ => 0))), (v7, .inl (cZ, 8, .inl (fun _ => 0))), (v8, .inl (cI, 8, .inl (fun _ => 0))), (v9, .inl (cI, 4, .inl (fun _ => 0))), (v10, .inl (cI, 4, .inl (fun _ => 0))), (v11, .inl (cI, 150, .inl (fun _ => 0))), (v12, .inl (cI, 72, .inl (fun _ => 0))), (v13, .inl (cI, 24, .inl (fun _ => 0))), (v14, .inl (cI, 24, .inl (fun _ => 0))), (v15, .inl (cI, 8, .inl (fun _ => 0))), (v16, .inl (cI, 168, .inl (fun _ => 0))), (v17, .inl (cI, 4, .inl (upd (upd (upd (upd (fun _ => 0) 0 ((-1))) 1 ((-1))) 2 ((-1))) 3 ((-1))))), (v18, .inl (cI, 120, .inl (fun _ => 0)))]) rfl ?_
  refine mz_astore (m := mLw) (lt := [(2, .ref m0), (1, .ref x0), (0, .ref b)]) CC dL_law_15 (Nat.le_of_ble_eq_true rfl) rfl ?_
  refine mz_iconst (m := mLw) CC (nI 0) dL_law_16 ki_0 ?_
  refine mz_istore (m := mLw) (lt := [(3, .int (nI 0)), (2, .ref m0), (1, .ref x0), (0, .ref b)]) CC dL_law_17 (Nat.le_of_ble_eq_true rfl) rfl ?_
  refine mz_perm (w2 := [(x0, .inr (9, [.ref u0, .ref u15, .int (nI 0), .ref u28, .ref u32, .ref u36, .ref u13, .ref u42, .ref u49, .ref u51, .ref u53])), (u0, .inr (0, [.int 0, .int 0, .int 0, .ref u1, .ref u2, .ref u3, .ref u4, .ref u5, .ref u6, .ref u7, .ref u8, .ref u9, .ref u10, .ref u11, .ref u12])), (u1, .inl (cI, 24, .inl (fun _ => 0))), (u2, .inl (cI, 8, .inl (fun _ => 0))), (u3, .inl (cZ, 8, .inl (fun _ => 0))), (u4, .inl (cI, 32, .inl (fun _ => 0))), (u5, .inl (cI, 8, .inl (fun _ => 0))), (u6, .inl (cI, 64, .inl (fun _ => 0))), (u7, .inl (cI, 64, .inl (fun _ => 0))), (u8, .inl (cI, 64, .inl (fun _ => 0))), (u9, .inl (cI, 24, .inl (fun _ => 0))), (u10, .inl (cI, 24, .inl (fun _ => 0))), (u11, .inl (cI, 24, .inl (fun _ => 0))), (u12, .inl (cI, 192, .inl (fun _ => 0))), (u15, .inr (0, [.int 0, .int 0, .int 0, .ref u16, .ref u17, .ref u18, .ref u19, .ref u20, .ref u21, .ref u22, .ref u23, .ref u24, .ref u25, .ref u26, .ref u27])), (u16, .inl (cI, 24, .inl (fun _ => 0))), (u17, .inl (cI, 8, .inl (fun _ => 0))), (u18, .inl (cZ, 8, .inl (fun _ => 0))), (u19, .inl (cI, 32, .inl (fun _ => 0))), (u20, .inl (cI, 8, .inl (fun _ => 0))), (u21, .inl (cI, 64, .inl (fun _ => 0))), (u22, .inl (cI, 64, .inl (fun _ => 0))), (u23, .inl (cI, 64, .inl (fun _ => 0))), (u24, .inl (cI, 24, .inl (fun _ => 0))), (u25, .inl (cI, 24, .inl (fun _ => 0))), (u26, .inl (cI, 24, .inl (fun _ => 0))), (u27, .inl (cI, 192, .inl (fun _ => 0))), (u28, .inr (2, [.ref u0, .ref u29, .ref u30, .ref u31])), (u29, .inl (cI, 8, .inl (fun _ => 0))), (u30, .inl (cI, 8, .inl (fun _ => 0))), (u31, .inl (cI, 8, .inl (fun _ => 0))), (u32, .inr (4, [.ref u0, .ref u33, .ref u34, .ref u35, .int (nI 0), .int ((-5)), .int ((-5))])), (u33, .inl (cI, 8, .inl (fun _ => 0))), (u34, .inl (cI, 8, .inl (fun _ => 0))), (u35, .inl (cZ, 8, .inl (fun _ => 0))), (u36, .inr (5, [.ref u0, .ref u37, .ref u38, .ref u39, .ref u40, .ref u41, .int (nI 0), .int (nI 0), .int (nI 0), .int (nI 0)])), (u37, .inl (cI, 24, .inl (fun _ => 0))), (u38, .inl (cI, 24, .inl (fun _ => 0))), (u39, .inl (cI, 576, .inl (fun _ => 0))), (u40, .inl (cI, 4, .inl (fun _ => 0))), (u41, .inl (cI, 4, .inl (fun _ => 0))), (u13, .inr (7, [.ref u14, .int (nI 0), .int (nI 0), .int ((-1))])), (u14, .inl (cI, 150, .inl (fun _ => 0))), (u42, .inr (8, [.ref u0, .ref u13, .ref u43, .ref u44, .ref u45, .ref u46, .ref u47, .ref u48, .int (nI 0)])), (u43, .inl (cI, 8, .inl (fun _ => 0))), (u44, .inl (cI, 8, .inl (fun _ => 0))), (u45, .inl (cI, 8, .inl (fun _ => 0))), (u46, .inl (cI, 24, .inl (fun _ => 0))), (u47, .inl (cI, 24, .inl (fun _ => 0))), (u48, .inl (cI, 24, .inl (fun _ => 0))), (u49, .inr (1, [.ref u0, .ref u13, .ref u50])), (u50, .inl (cI, 6, .inl (fun _ => 0))), (u51, .inr (3, [.ref u52, .int (nI 0)])), (u52, .inl (cI, 168, .inl (fun _ => 0))), (u53, .inr (6, [.ref u54, .ref u55])), (u54, .inl (cI, 120, .inl (fun _ => 0))), (u55, .inl (cI, 4, .inl (upd (upd (upd (upd (fun _ => 0) 0 ((-1))) 1 ((-1))) 2 ((-1))) 3 ((-1))))), (m0, .inr (10, [.ref v0, .ref v1, .int 0, .ref v2, .ref v3, .ref v4, .ref v5, .int 0, .ref v6, .ref v7, .ref v8, .int 0, .int 0, .int 0, .ref v9, .ref v10, .int 0, .int 0, .ref v11, .int 0, .int 0, .int 0, .int 0, .ref v12, .int 0, .int 0, .int 0, .ref v13, .ref v14, .ref v15, .ref v16, .int 0, .ref v17, .ref v18])), (v0, .inl (cI, 515, .inl (fun _ => 0))), (v1, .inl (cI, 515, .inl (fun _ => 0))), (v2, .inl (cI, 4, .inl (upd (upd (upd (upd (fun _ => 0) 0 (nI 104)) 1 (nI 101)) 2 (nI 110)) 3 (nI 112)))), (v3, .inl (cI, 4, .inl (upd (upd (upd (upd (fun _ => 0) 0 (nI 5)) 1 (nI 3)) 2 (nI 2)) 3 (nI 1)))), (v4, .inl (cI, 24, .inl (fun _ => 0))), (v5, .inl (cI, 8, .inl (fun _ => 0))), (v6, .inl (cI, 8, .inl (fun _ => 0))), (v7, .inl (cZ, 8, .inl (fun _ => 0))), (v8, .inl (cI, 8, .inl (fun _ => 0))), (v9, .inl (cI, 4, .inl (fun _ => 0))), (v10, .inl (cI, 4, .inl (fun _ => 0))), (v11, .inl (cI, 150, .inl (fun _ => 0))), (v12, .inl (cI, 72, .inl (fun _ => 0))), (v13, .inl (cI, 24, .inl (fun _ => 0))), (v14, .inl (cI, 24, .inl (fun _ => 0))), (v15, .inl (cI, 8, .inl (fun _ => 0))), (v16, .inl (cI, 168, .inl (fun _ => 0))), (v17, .inl (cI, 4, .inl (upd (upd (upd (upd (fun _ => 0) 0 ((-1))) 1 ((-1))) 2 ((-1))) 3 ((-1))))), (v18, .inl (cI, 120, .inl (fun _ => 0)))]) [0, 1, 2, 3, 4, 5, 6, 7, 8, 9, 10, 11, 12, 13, 16, 17, 18, 19, 20, 21, 22, 23, 24, 25, 26, 27, 28, 29, 30, 31, 32, 33, 34, 35, 36, 37, 38, 39, 40, 41, 42, 14, 15, 43, 44, 45, 46, 47, 48, 49, 50, 51, 52, 53, 54, 55, 56, 57, 58, 59, 60, 61, 62, 63, 64, 65, 66, 67, 68, 69, 70, 71, 72, 73, 74, 75, 76] rfl rfl rfl ?_
  intro H locs arr hP hD hS hl
  rw [← wl_start f D1 D2 cI cZ x0 u0 u1 u2 u3 u4 u5 u6 u7 u8 u9 u10 u11 u12 u15 u16 u17 u18 u19 u20 u21 u22 u23 u24 u25 u26 u27 u28 u29 u30 u31 u32 u33 u34 u35 u36 u37 u38 u39 u40 u41 u13 u14 u42 u43 u44 u45 u46 u47 u48 u49 u50 u51 u52 u53 u54 u55 m0 v0 v1 v2 v3 v4 v5 v6 v7 v8 v9 v10 v11 v12 v13 v14 v15 v16 v17 v18] at hP hD
  obtain ⟨G, hG⟩ : ∃ G : GG, G = (fun k => if k < NN then ([x0, u0, u1, u2, u3, u4, u5, u6, u7, u8, u9, u10, u11, u12, u15, u16, u17, u18, u19, u20, u21, u22, u23, u24, u25, u26, u27, u28, u29, u30, u31, u32, u33, u34, u35, u36, u37, u38, u39, u40, u41, u13, u14, u42, u43, u44, u45, u46, u47, u48, u49, u50, u51, u52, u53, u54, u55, m0, v0, v1, v2, v3, v4, v5, v6, v7, v8, v9, v10, v11, v12, v13, v14, v15, v16, v17, v18] : List Nat).getD k 0 else f (k - NN), D1, D2, cI, cZ) := ⟨_, rfl⟩
  have hDG : gD G = (D1, D2) := by rw [hG]; rfl
  have hg0 : G.1 0 = x0 := by rw [hG]; rfl
  have hg57 : G.1 57 = m0 := by rw [hG]; rfl
  have hgI : G.2.2.2.1 = cI := by rw [hG]
  have hgZ : G.2.2.2.2 = cZ := by rw [hG]
  have hgf : ∀ i, G.1 (NN + i) = f i := fun i => by
    rw [hG]
    show (if NN + i < NN then _ else f (NN + i - NN)) = f i
    rw [if_neg (by omega), show NN + i - NN = i by omega]
  rw [← hG] at hP hD
  clear hG
  have hge : ∀ k, k < NN → s.heap.size ≤ G.1 k := fun k hk => hD.2 k _ (wl_get G M0 hk)
  have hAG : (fun q => s.heap.size ≤ q) = gA G s.heap.size := funext (fun q => propext ⟨Or.inr, fun h => by
    rcases h with ⟨k, hk, rfl⟩ | h
    · exact hge k hk
    · exact h⟩)
  have hgs := hf G hgf
  rw [hAG] at CC hD hS hgs
  rw [← hDG, ← hgI, ← hgZ] at CC
  rw [← hDG] at hP
  have C : lwX G b L xs p s m meth c := by
    refine ⟨CC, hgs, hX, hbl, ?_, hL, hge⟩
    rw [← hAG]
    exact Nat.not_le.mpr hbl
  rw [← hg0, ← hg57] at hl
  exact lz_all C 512 0 M0 inv_start (Nat.zero_le _) (by omega) H locs arr hP hD hS hl
