theorem dL_law_613 : decode cL_law 613 = .ok (.aload_n 1, 1) := by decide +kernel
theorem dL_law_614 : decode cL_law 614 = .ok (.invokevirtual 98, 3) := by decide +kernel
theorem dL_law_617 : decode cL_law 617 = .ok (.aload_n 2, 1) := by decide +kernel
theorem dL_law_618 : decode cL_law 618 = .ok (.invokevirtual 101, 3) := by decide +kernel
theorem dL_law_621 : decode cL_law 621 = .ok (.if_icmp .eq 1144, 3) := by decide +kernel
theorem dL_law_626 : decode cL_law 626 = .ok (.aload_n 1, 1) := by decide +kernel
theorem dL_law_627 : decode cL_law 627 = .ok (.invokevirtual 102, 3) := by decide +kernel
theorem dL_law_630 : decode cL_law 630 = .ok (.aload_n 2, 1) := by decide +kernel
theorem dL_law_631 : decode cL_law 631 = .ok (.invokevirtual 105, 3) := by decide +kernel
theorem dL_law_634 : decode cL_law 634 = .ok (.if_icmp .eq 1131, 3) := by decide +kernel
theorem dL_law_639 : decode cL_law 639 = .ok (.aload_n 1, 1) := by decide +kernel
theorem dL_law_640 : decode cL_law 640 = .ok (.aload_n 0, 1) := by decide +kernel
theorem dL_law_641 : decode cL_law 641 = .ok (.iload 4, 2) := by decide +kernel
theorem dL_law_643 : decode cL_law 643 = .ok (.iconst 1, 1) := by decide +kernel
theorem dL_law_644 : decode cL_law 644 = .ok (.iadd, 1) := by decide +kernel
theorem dL_law_645 : decode cL_law 645 = .ok (.iaload, 1) := by decide +kernel
theorem dL_law_646 : decode cL_law 646 = .ok (.aload_n 0, 1) := by decide +kernel
theorem dL_law_647 : decode cL_law 647 = .ok (.iload 4, 2) := by decide +kernel
theorem dL_law_649 : decode cL_law 649 = .ok (.iconst 2, 1) := by decide +kernel
theorem dL_law_650 : decode cL_law 650 = .ok (.iadd, 1) := by decide +kernel
theorem dL_law_651 : decode cL_law 651 = .ok (.iaload, 1) := by decide +kernel
theorem dL_law_652 : decode cL_law 652 = .ok (.ifCond .eq 7, 3) := by decide +kernel
theorem dL_law_655 : decode cL_law 655 = .ok (.iconst 1, 1) := by decide +kernel
theorem dL_law_656 : decode cL_law 656 = .ok (.goto 4, 3) := by decide +kernel
theorem dL_law_659 : decode cL_law 659 = .ok (.iconst 0, 1) := by decide +kernel
theorem dL_law_660 : decode cL_law 660 = .ok (.invokevirtual 106, 3) := by decide +kernel
theorem dL_law_663 : decode cL_law 663 = .ok (.aload_n 2, 1) := by decide +kernel
theorem dL_law_664 : decode cL_law 664 = .ok (.aload_n 0, 1) := by decide +kernel
theorem dL_law_665 : decode cL_law 665 = .ok (.iload 4, 2) := by decide +kernel
theorem dL_law_667 : decode cL_law 667 = .ok (.iconst 1, 1) := by decide +kernel
theorem dL_law_668 : decode cL_law 668 = .ok (.iadd, 1) := by decide +kernel
theorem dL_law_669 : decode cL_law 669 = .ok (.iaload, 1) := by decide +kernel
theorem dL_law_670 : decode cL_law 670 = .ok (.aload_n 0, 1) := by decide +kernel
theorem dL_law_671 : decode cL_law 671 = .ok (.iload 4, 2) := by decide +kernel
theorem dL_law_673 : decode cL_law 673 = .ok (.iconst 2, 1) := by decide +kernel
theorem dL_law_674 : decode cL_law 674 = .ok (.iadd, 1) := by decide +kernel
theorem dL_law_675 : decode cL_law 675 = .ok (.iaload, 1) := by decide +kernel
theorem dL_law_676 : decode cL_law 676 = .ok (.ifCond .eq 7, 3) := by decide +kernel
theorem dL_law_679 : decode cL_law 679 = .ok (.iconst 1, 1) := by decide +kernel
theorem dL_law_680 : decode cL_law 680 = .ok (.goto 4, 3) := by decide +kernel
theorem dL_law_683 : decode cL_law 683 = .ok (.iconst 0, 1) := by decide +kernel
theorem dL_law_684 : decode cL_law 684 = .ok (.invokevirtual 110, 3) := by decide +kernel
theorem dL_law_687 : decode cL_law 687 = .ok (.if_icmp .eq 1078, 3) := by decide +kernel
theorem dL_law_692 : decode cL_law 692 = .ok (.aload_n 1, 1) := by decide +kernel
theorem dL_law_693 : decode cL_law 693 = .ok (.invokevirtual 111, 3) := by decide +kernel
theorem dL_law_696 : decode cL_law 696 = .ok (.aload_n 2, 1) := by decide +kernel
theorem dL_law_697 : decode cL_law 697 = .ok (.invokevirtual 114, 3) := by decide +kernel
theorem dL_law_700 : decode cL_law 700 = .ok (.if_icmp .eq 1065, 3) := by decide +kernel
theorem dL_law_705 : decode cL_law 705 = .ok (.aload_n 1, 1) := by decide +kernel
theorem dL_law_706 : decode cL_law 706 = .ok (.invokevirtual 115, 3) := by decide +kernel
theorem dL_law_709 : decode cL_law 709 = .ok (.aload_n 2, 1) := by decide +kernel
theorem dL_law_710 : decode cL_law 710 = .ok (.invokevirtual 118, 3) := by decide +kernel
theorem dL_law_713 : decode cL_law 713 = .ok (.if_icmp .eq 1052, 3) := by decide +kernel
theorem dL_law_718 : decode cL_law 718 = .ok (.aload_n 1, 1) := by decide +kernel
theorem dL_law_719 : decode cL_law 719 = .ok (.invokevirtual 119, 3) := by decide +kernel
theorem dL_law_722 : decode cL_law 722 = .ok (.aload_n 2, 1) := by decide +kernel
theorem dL_law_723 : decode cL_law 723 = .ok (.invokevirtual 122, 3) := by decide +kernel
theorem dL_law_726 : decode cL_law 726 = .ok (.if_icmp .eq 1039, 3) := by decide +kernel
theorem dL_law_731 : decode cL_law 731 = .ok (.aload_n 1, 1) := by decide +kernel
theorem dL_law_732 : decode cL_law 732 = .ok (.aload_n 0, 1) := by decide +kernel
theorem dL_law_733 : decode cL_law 733 = .ok (.iload 4, 2) := by decide +kernel
theorem dL_law_735 : decode cL_law 735 = .ok (.iconst 1, 1) := by decide +kernel
theorem dL_law_736 : decode cL_law 736 = .ok (.iadd, 1) := by decide +kernel
theorem dL_law_737 : decode cL_law 737 = .ok (.iaload, 1) := by decide +kernel
theorem dL_law_738 : decode cL_law 738 = .ok (.aload_n 0, 1) := by decide +kernel
theorem dL_law_739 : decode cL_law 739 = .ok (.iload 4, 2) := by decide +kernel
theorem dL_law_741 : decode cL_law 741 = .ok (.iconst 2, 1) := by decide +kernel
theorem dL_law_742 : decode cL_law 742 = .ok (.iadd, 1) := by decide +kernel
theorem dL_law_743 : decode cL_law 743 = .ok (.iaload, 1) := by decide +kernel
theorem dL_law_744 : decode cL_law 744 = .ok (.invokevirtual 123, 3) := by decide +kernel
theorem dL_law_747 : decode cL_law 747 = .ok (.aload_n 2, 1) := by decide +kernel
theorem dL_law_748 : decode cL_law 748 = .ok (.aload_n 0, 1) := by decide +kernel
theorem dL_law_749 : decode cL_law 749 = .ok (.iload 4, 2) := by decide +kernel
theorem dL_law_751 : decode cL_law 751 = .ok (.iconst 1, 1) := by decide +kernel
theorem dL_law_752 : decode cL_law 752 = .ok (.iadd, 1) := by decide +kernel
theorem dL_law_753 : decode cL_law 753 = .ok (.iaload, 1) := by decide +kernel
theorem dL_law_754 : decode cL_law 754 = .ok (.aload_n 0, 1) := by decide +kernel
theorem dL_law_755 : decode cL_law 755 = .ok (.iload 4, 2) := by decide +kernel
theorem dL_law_757 : decode cL_law 757 = .ok (.iconst 2, 1) := by decide +kernel
theorem dL_law_758 : decode cL_law 758 = .ok (.iadd, 1) := by decide +kernel
theorem dL_law_759 : decode cL_law 759 = .ok (.iaload, 1) := by decide +kernel
theorem dL_law_760 : decode cL_law 760 = .ok (.invokevirtual 126, 3) := by decide +kernel
theorem dL_law_763 : decode cL_law 763 = .ok (.if_icmp .eq 1002, 3) := by decide +kernel
theorem dL_law_768 : decode cL_law 768 = .ok (.aload_n 1, 1) := by decide +kernel
theorem dL_law_769 : decode cL_law 769 = .ok (.aload_n 0, 1) := by decide +kernel
theorem dL_law_770 : decode cL_law 770 = .ok (.iload 4, 2) := by decide +kernel
theorem dL_law_772 : decode cL_law 772 = .ok (.iconst 1, 1) := by decide +kernel
theorem dL_law_773 : decode cL_law 773 = .ok (.iadd, 1) := by decide +kernel
theorem dL_law_774 : decode cL_law 774 = .ok (.iaload, 1) := by decide +kernel
theorem dL_law_775 : decode cL_law 775 = .ok (.aload_n 0, 1) := by decide +kernel
theorem dL_law_776 : decode cL_law 776 = .ok (.iload 4, 2) := by decide +kernel
theorem dL_law_778 : decode cL_law 778 = .ok (.iconst 2, 1) := by decide +kernel
theorem dL_law_779 : decode cL_law 779 = .ok (.iadd, 1) := by decide +kernel
theorem dL_law_780 : decode cL_law 780 = .ok (.iaload, 1) := by decide +kernel
theorem dL_law_781 : decode cL_law 781 = .ok (.aload_n 0, 1) := by decide +kernel
theorem dL_law_782 : decode cL_law 782 = .ok (.iload 4, 2) := by decide +kernel
theorem dL_law_784 : decode cL_law 784 = .ok (.iconst 3, 1) := by decide +kernel
theorem dL_law_785 : decode cL_law 785 = .ok (.iadd, 1) := by decide +kernel
theorem dL_law_786 : decode cL_law 786 = .ok (.iaload, 1) := by decide +kernel
theorem dL_law_787 : decode cL_law 787 = .ok (.invokevirtual 127, 3) := by decide +kernel
theorem dL_law_790 : decode cL_law 790 = .ok (.aload_n 2, 1) := by decide +kernel
theorem dL_law_791 : decode cL_law 791 = .ok (.aload_n 0, 1) := by decide +kernel
theorem dL_law_792 : decode cL_law 792 = .ok (.iload 4, 2) := by decide +kernel
theorem dL_law_794 : decode cL_law 794 = .ok (.iconst 1, 1) := by decide +kernel
theorem dL_law_795 : decode cL_law 795 = .ok (.iadd, 1) := by decide +kernel
theorem dL_law_796 : decode cL_law 796 = .ok (.iaload, 1) := by decide +kernel
theorem dL_law_797 : decode cL_law 797 = .ok (.aload_n 0, 1) := by decide +kernel
theorem dL_law_798 : decode cL_law 798 = .ok (.iload 4, 2) := by decide +kernel
theorem dL_law_800 : decode cL_law 800 = .ok (.iconst 2, 1) := by decide +kernel
theorem dL_law_801 : decode cL_law 801 = .ok (.iadd, 1) := by decide +kernel
theorem dL_law_802 : decode cL_law 802 = .ok (.iaload, 1) := by decide +kernel
theorem dL_law_803 : decode cL_law 803 = .ok (.aload_n 0, 1) := by decide +kernel
theorem dL_law_804 : decode cL_law 804 = .ok (.iload 4, 2) := by decide +kernel
theorem dL_law_806 : decode cL_law 806 = .ok (.iconst 3, 1) := by decide +kernel
theorem dL_law_807 : decode cL_law 807 = .ok (.iadd, 1) := by decide +kernel
theorem dL_law_808 : decode cL_law 808 = .ok (.iaload, 1) := by decide +kernel
theorem dL_law_809 : decode cL_law 809 = .ok (.invokevirtual 130, 3) := by decide +kernel
theorem dL_law_812 : decode cL_law 812 = .ok (.if_icmp .eq 953, 3) := by decide +kernel
theorem dL_law_817 : decode cL_law 817 = .ok (.aload_n 1, 1) := by decide +kernel
theorem dL_law_818 : decode cL_law 818 = .ok (.aload_n 0, 1) := by decide +kernel
theorem dL_law_819 : decode cL_law 819 = .ok (.iload 4, 2) := by decide +kernel
theorem dL_law_821 : decode cL_law 821 = .ok (.iconst 1, 1) := by decide +kernel
theorem dL_law_822 : decode cL_law 822 = .ok (.iadd, 1) := by decide +kernel
theorem dL_law_823 : decode cL_law 823 = .ok (.iaload, 1) := by decide +kernel
theorem dL_law_824 : decode cL_law 824 = .ok (.invokevirtual 131, 3) := by decide +kernel
theorem dL_law_827 : decode cL_law 827 = .ok (.aload_n 2, 1) := by decide +kernel
theorem dL_law_828 : decode cL_law 828 = .ok (.aload_n 0, 1) := by decide +kernel
theorem dL_law_829 : decode cL_law 829 = .ok (.iload 4, 2) := by decide +kernel
theorem dL_law_831 : decode cL_law 831 = .ok (.iconst 1, 1) := by decide +kernel
theorem dL_law_832 : decode cL_law 832 = .ok (.iadd, 1) := by decide +kernel
theorem dL_law_833 : decode cL_law 833 = .ok (.iaload, 1) := by decide +kernel
theorem dL_law_834 : decode cL_law 834 = .ok (.invokevirtual 134, 3) := by decide +kernel
theorem dL_law_837 : decode cL_law 837 = .ok (.if_icmp .eq 928, 3) := by decide +kernel
theorem dL_law_842 : decode cL_law 842 = .ok (.aload_n 1, 1) := by decide +kernel
theorem dL_law_843 : decode cL_law 843 = .ok (.aload_n 0, 1) := by decide +kernel
theorem dL_law_844 : decode cL_law 844 = .ok (.iload 4, 2) := by decide +kernel
theorem dL_law_846 : decode cL_law 846 = .ok (.iconst 1, 1) := by decide +kernel
theorem dL_law_847 : decode cL_law 847 = .ok (.iadd, 1) := by decide +kernel
theorem dL_law_848 : decode cL_law 848 = .ok (.iaload, 1) := by decide +kernel
theorem dL_law_849 : decode cL_law 849 = .ok (.invokevirtual 135, 3) := by decide +kernel
theorem dL_law_852 : decode cL_law 852 = .ok (.aload_n 2, 1) := by decide +kernel
theorem dL_law_853 : decode cL_law 853 = .ok (.aload_n 0, 1) := by decide +kernel
theorem dL_law_854 : decode cL_law 854 = .ok (.iload 4, 2) := by decide +kernel
theorem dL_law_856 : decode cL_law 856 = .ok (.iconst 1, 1) := by decide +kernel
theorem dL_law_857 : decode cL_law 857 = .ok (.iadd, 1) := by decide +kernel
theorem dL_law_858 : decode cL_law 858 = .ok (.iaload, 1) := by decide +kernel
theorem dL_law_859 : decode cL_law 859 = .ok (.invokevirtual 138, 3) := by decide +kernel
theorem dL_law_862 : decode cL_law 862 = .ok (.if_icmp .eq 903, 3) := by decide +kernel
theorem dL_law_867 : decode cL_law 867 = .ok (.aload_n 1, 1) := by decide +kernel
theorem dL_law_868 : decode cL_law 868 = .ok (.aload_n 0, 1) := by decide +kernel
theorem dL_law_869 : decode cL_law 869 = .ok (.iload 4, 2) := by decide +kernel
theorem dL_law_871 : decode cL_law 871 = .ok (.iconst 1, 1) := by decide +kernel
theorem dL_law_872 : decode cL_law 872 = .ok (.iadd, 1) := by decide +kernel
theorem dL_law_873 : decode cL_law 873 = .ok (.iaload, 1) := by decide +kernel
theorem dL_law_874 : decode cL_law 874 = .ok (.aload_n 0, 1) := by decide +kernel
theorem dL_law_875 : decode cL_law 875 = .ok (.iload 4, 2) := by decide +kernel
theorem dL_law_877 : decode cL_law 877 = .ok (.iconst 2, 1) := by decide +kernel
theorem dL_law_878 : decode cL_law 878 = .ok (.iadd, 1) := by decide +kernel
theorem dL_law_879 : decode cL_law 879 = .ok (.iaload, 1) := by decide +kernel
theorem dL_law_880 : decode cL_law 880 = .ok (.i2l, 1) := by decide +kernel
theorem dL_law_881 : decode cL_law 881 = .ok (.bipush 32, 2) := by decide +kernel
theorem dL_law_883 : decode cL_law 883 = .ok (.lshl, 1) := by decide +kernel
theorem dL_law_884 : decode cL_law 884 = .ok (.aload_n 0, 1) := by decide +kernel
theorem dL_law_885 : decode cL_law 885 = .ok (.iload 4, 2) := by decide +kernel
theorem dL_law_887 : decode cL_law 887 = .ok (.iconst 3, 1) := by decide +kernel
theorem dL_law_888 : decode cL_law 888 = .ok (.iadd, 1) := by decide +kernel
theorem dL_law_889 : decode cL_law 889 = .ok (.iaload, 1) := by decide +kernel
theorem dL_law_890 : decode cL_law 890 = .ok (.i2l, 1) := by decide +kernel
theorem dL_law_891 : decode cL_law 891 = .ok (.ldc2_w 139, 3) := by decide +kernel
theorem dL_law_894 : decode cL_law 894 = .ok (.land, 1) := by decide +kernel
theorem dL_law_895 : decode cL_law 895 = .ok (.lor, 1) := by decide +kernel
theorem dL_law_896 : decode cL_law 896 = .ok (.aload_n 0, 1) := by decide +kernel
theorem dL_law_897 : decode cL_law 897 = .ok (.iload 4, 2) := by decide +kernel
theorem dL_law_899 : decode cL_law 899 = .ok (.iconst 4, 1) := by decide +kernel
theorem dL_law_900 : decode cL_law 900 = .ok (.iadd, 1) := by decide +kernel
theorem dL_law_901 : decode cL_law 901 = .ok (.iaload, 1) := by decide +kernel
theorem dL_law_902 : decode cL_law 902 = .ok (.i2l, 1) := by decide +kernel
theorem dL_law_903 : decode cL_law 903 = .ok (.bipush 32, 2) := by decide +kernel
theorem dL_law_905 : decode cL_law 905 = .ok (.lshl, 1) := by decide +kernel
theorem dL_law_906 : decode cL_law 906 = .ok (.aload_n 0, 1) := by decide +kernel
theorem dL_law_907 : decode cL_law 907 = .ok (.iload 4, 2) := by decide +kernel
theorem dL_law_909 : decode cL_law 909 = .ok (.iconst 5, 1) := by decide +kernel
theorem dL_law_910 : decode cL_law 910 = .ok (.iadd, 1) := by decide +kernel
theorem dL_law_911 : decode cL_law 911 = .ok (.iaload, 1) := by decide +kernel
theorem dL_law_912 : decode cL_law 912 = .ok (.i2l, 1) := by decide +kernel
theorem dL_law_913 : decode cL_law 913 = .ok (.ldc2_w 139, 3) := by decide +kernel
theorem dL_law_916 : decode cL_law 916 = .ok (.land, 1) := by decide +kernel
theorem dL_law_917 : decode cL_law 917 = .ok (.lor, 1) := by decide +kernel
theorem dL_law_918 : decode cL_law 918 = .ok (.aload_n 0, 1) := by decide +kernel
theorem dL_law_919 : decode cL_law 919 = .ok (.iload 4, 2) := by decide +kernel
theorem dL_law_921 : decode cL_law 921 = .ok (.bipush 6, 2) := by decide +kernel
theorem dL_law_923 : decode cL_law 923 = .ok (.iadd, 1) := by decide +kernel
theorem dL_law_924 : decode cL_law 924 = .ok (.iaload, 1) := by decide +kernel
theorem dL_law_925 : decode cL_law 925 = .ok (.i2l, 1) := by decide +kernel
theorem dL_law_926 : decode cL_law 926 = .ok (.bipush 32, 2) := by decide +kernel
theorem dL_law_928 : decode cL_law 928 = .ok (.lshl, 1) := by decide +kernel
theorem dL_law_929 : decode cL_law 929 = .ok (.aload_n 0, 1) := by decide +kernel
theorem dL_law_930 : decode cL_law 930 = .ok (.iload 4, 2) := by decide +kernel
theorem dL_law_932 : decode cL_law 932 = .ok (.bipush 7, 2) := by decide +kernel
theorem dL_law_934 : decode cL_law 934 = .ok (.iadd, 1) := by decide +kernel
theorem dL_law_935 : decode cL_law 935 = .ok (.iaload, 1) := by decide +kernel
theorem dL_law_936 : decode cL_law 936 = .ok (.i2l, 1) := by decide +kernel
theorem dL_law_937 : decode cL_law 937 = .ok (.ldc2_w 139, 3) := by decide +kernel
theorem dL_law_940 : decode cL_law 940 = .ok (.land, 1) := by decide +kernel
theorem dL_law_941 : decode cL_law 941 = .ok (.lor, 1) := by decide +kernel
theorem dL_law_942 : decode cL_law 942 = .ok (.aload_n 0, 1) := by decide +kernel
theorem dL_law_943 : decode cL_law 943 = .ok (.iload 4, 2) := by decide +kernel
theorem dL_law_945 : decode cL_law 945 = .ok (.bipush 8, 2) := by decide +kernel
theorem dL_law_947 : decode cL_law 947 = .ok (.iadd, 1) := by decide +kernel
theorem dL_law_948 : decode cL_law 948 = .ok (.iaload, 1) := by decide +kernel
theorem dL_law_949 : decode cL_law 949 = .ok (.i2l, 1) := by decide +kernel
theorem dL_law_950 : decode cL_law 950 = .ok (.bipush 32, 2) := by decide +kernel
theorem dL_law_952 : decode cL_law 952 = .ok (.lshl, 1) := by decide +kernel
theorem dL_law_953 : decode cL_law 953 = .ok (.aload_n 0, 1) := by decide +kernel
theorem dL_law_954 : decode cL_law 954 = .ok (.iload 4, 2) := by decide +kernel
theorem dL_law_956 : decode cL_law 956 = .ok (.bipush 9, 2) := by decide +kernel
theorem dL_law_958 : decode cL_law 958 = .ok (.iadd, 1) := by decide +kernel
theorem dL_law_959 : decode cL_law 959 = .ok (.iaload, 1) := by decide +kernel
theorem dL_law_960 : decode cL_law 960 = .ok (.i2l, 1) := by decide +kernel
theorem dL_law_961 : decode cL_law 961 = .ok (.ldc2_w 139, 3) := by decide +kernel
theorem dL_law_964 : decode cL_law 964 = .ok (.land, 1) := by decide +kernel
theorem dL_law_965 : decode cL_law 965 = .ok (.lor, 1) := by decide +kernel
theorem dL_law_966 : decode cL_law 966 = .ok (.invokevirtual 141, 3) := by decide +kernel
theorem dL_law_969 : decode cL_law 969 = .ok (.aload_n 2, 1) := by decide +kernel
theorem dL_law_970 : decode cL_law 970 = .ok (.aload_n 0, 1) := by decide +kernel
theorem dL_law_971 : decode cL_law 971 = .ok (.iload 4, 2) := by decide +kernel
theorem dL_law_973 : decode cL_law 973 = .ok (.iconst 1, 1) := by decide +kernel
theorem dL_law_974 : decode cL_law 974 = .ok (.iadd, 1) := by decide +kernel
theorem dL_law_975 : decode cL_law 975 = .ok (.iaload, 1) := by decide +kernel
theorem dL_law_976 : decode cL_law 976 = .ok (.aload_n 0, 1) := by decide +kernel
theorem dL_law_977 : decode cL_law 977 = .ok (.iload 4, 2) := by decide +kernel
theorem dL_law_979 : decode cL_law 979 = .ok (.iconst 2, 1) := by decide +kernel
theorem dL_law_980 : decode cL_law 980 = .ok (.iadd, 1) := by decide +kernel
theorem dL_law_981 : decode cL_law 981 = .ok (.iaload, 1) := by decide +kernel
theorem dL_law_982 : decode cL_law 982 = .ok (.i2l, 1) := by decide +kernel
theorem dL_law_983 : decode cL_law 983 = .ok (.bipush 32, 2) := by decide +kernel
theorem dL_law_985 : decode cL_law 985 = .ok (.lshl, 1) := by decide +kernel
theorem dL_law_986 : decode cL_law 986 = .ok (.aload_n 0, 1) := by decide +kernel
theorem dL_law_987 : decode cL_law 987 = .ok (.iload 4, 2) := by decide +kernel
theorem dL_law_989 : decode cL_law 989 = .ok (.iconst 3, 1) := by decide +kernel
theorem dL_law_990 : decode cL_law 990 = .ok (.iadd, 1) := by decide +kernel
theorem dL_law_991 : decode cL_law 991 = .ok (.iaload, 1) := by decide +kernel
theorem dL_law_992 : decode cL_law 992 = .ok (.i2l, 1) := by decide +kernel
theorem dL_law_993 : decode cL_law 993 = .ok (.ldc2_w 139, 3) := by decide +kernel
theorem dL_law_996 : decode cL_law 996 = .ok (.land, 1) := by decide +kernel
theorem dL_law_997 : decode cL_law 997 = .ok (.lor, 1) := by decide +kernel
theorem dL_law_998 : decode cL_law 998 = .ok (.aload_n 0, 1) := by decide +kernel
theorem dL_law_999 : decode cL_law 999 = .ok (.iload 4, 2) := by decide +kernel
theorem dL_law_1001 : decode cL_law 1001 = .ok (.iconst 4, 1) := by decide +kernel
theorem dL_law_1002 : decode cL_law 1002 = .ok (.iadd, 1) := by decide +kernel
theorem dL_law_1003 : decode cL_law 1003 = .ok (.iaload, 1) := by decide +kernel
theorem dL_law_1004 : decode cL_law 1004 = .ok (.i2l, 1) := by decide +kernel
theorem dL_law_1005 : decode cL_law 1005 = .ok (.bipush 32, 2) := by decide +kernel
theorem dL_law_1007 : decode cL_law 1007 = .ok (.lshl, 1) := by decide +kernel
theorem dL_law_1008 : decode cL_law 1008 = .ok (.aload_n 0, 1) := by decide +kernel
theorem dL_law_1009 : decode cL_law 1009 = .ok (.iload 4, 2) := by decide +kernel
theorem dL_law_1011 : decode cL_law 1011 = .ok (.iconst 5, 1) := by decide +kernel
theorem dL_law_1012 : decode cL_law 1012 = .ok (.iadd, 1) := by decide +kernel
theorem dL_law_1013 : decode cL_law 1013 = .ok (.iaload, 1) := by decide +kernel
theorem dL_law_1014 : decode cL_law 1014 = .ok (.i2l, 1) := by decide +kernel
theorem dL_law_1015 : decode cL_law 1015 = .ok (.ldc2_w 139, 3) := by decide +kernel
theorem dL_law_1018 : decode cL_law 1018 = .ok (.land, 1) := by decide +kernel
theorem dL_law_1019 : decode cL_law 1019 = .ok (.lor, 1) := by decide +kernel
theorem dL_law_1020 : decode cL_law 1020 = .ok (.aload_n 0, 1) := by decide +kernel
theorem dL_law_1021 : decode cL_law 1021 = .ok (.iload 4, 2) := by decide +kernel
theorem dL_law_1023 : decode cL_law 1023 = .ok (.bipush 6, 2) := by decide +kernel
theorem dL_law_1025 : decode cL_law 1025 = .ok (.iadd, 1) := by decide +kernel
theorem dL_law_1026 : decode cL_law 1026 = .ok (.iaload, 1) := by decide +kernel
theorem dL_law_1027 : decode cL_law 1027 = .ok (.i2l, 1) := by decide +kernel
theorem dL_law_1028 : decode cL_law 1028 = .ok (.bipush 32, 2) := by decide +kernel
theorem dL_law_1030 : decode cL_law 1030 = .ok (.lshl, 1) := by decide +kernel
theorem dL_law_1031 : decode cL_law 1031 = .ok (.aload_n 0, 1) := by decide +kernel
theorem dL_law_1032 : decode cL_law 1032 = .ok (.iload 4, 2) := by decide +kernel
theorem dL_law_1034 : decode cL_law 1034 = .ok (.bipush 7, 2) := by decide +kernel
theorem dL_law_1036 : decode cL_law 1036 = .ok (.iadd, 1) := by decide +kernel
theorem dL_law_1037 : decode cL_law 1037 = .ok (.iaload, 1) := by decide +kernel
theorem dL_law_1038 : decode cL_law 1038 = .ok (.i2l, 1) := by decide +kernel
theorem dL_law_1039 : decode cL_law 1039 = .ok (.ldc2_w 139, 3) := by decide +kernel
theorem dL_law_1042 : decode cL_law 1042 = .ok (.land, 1) := by decide +kernel
theorem dL_law_1043 : decode cL_law 1043 = .ok (.lor, 1) := by decide +kernel
theorem dL_law_1044 : decode cL_law 1044 = .ok (.aload_n 0, 1) := by decide +kernel
theorem dL_law_1045 : decode cL_law 1045 = .ok (.iload 4, 2) := by decide +kernel
theorem dL_law_1047 : decode cL_law 1047 = .ok (.bipush 8, 2) := by decide +kernel
theorem dL_law_1049 : decode cL_law 1049 = .ok (.iadd, 1) := by decide +kernel
theorem dL_law_1050 : decode cL_law 1050 = .ok (.iaload, 1) := by decide +kernel
theorem dL_law_1051 : decode cL_law 1051 = .ok (.i2l, 1) := by decide +kernel
theorem dL_law_1052 : decode cL_law 1052 = .ok (.bipush 32, 2) := by decide +kernel
theorem dL_law_1054 : decode cL_law 1054 = .ok (.lshl, 1) := by decide +kernel
theorem dL_law_1055 : decode cL_law 1055 = .ok (.aload_n 0, 1) := by decide +kernel
theorem dL_law_1056 : decode cL_law 1056 = .ok (.iload 4, 2) := by decide +kernel
theorem dL_law_1058 : decode cL_law 1058 = .ok (.bipush 9, 2) := by decide +kernel
theorem dL_law_1060 : decode cL_law 1060 = .ok (.iadd, 1) := by decide +kernel
theorem dL_law_1061 : decode cL_law 1061 = .ok (.iaload, 1) := by decide +kernel
theorem dL_law_1062 : decode cL_law 1062 = .ok (.i2l, 1) := by decide +kernel
theorem dL_law_1063 : decode cL_law 1063 = .ok (.ldc2_w 139, 3) := by decide +kernel
theorem dL_law_1066 : decode cL_law 1066 = .ok (.land, 1) := by decide +kernel
theorem dL_law_1067 : decode cL_law 1067 = .ok (.lor, 1) := by decide +kernel
theorem dL_law_1068 : decode cL_law 1068 = .ok (.invokevirtual 145, 3) := by decide +kernel
theorem dL_law_1071 : decode cL_law 1071 = .ok (.if_icmp .eq 694, 3) := by decide +kernel
theorem dL_law_1076 : decode cL_law 1076 = .ok (.aload_n 1, 1) := by decide +kernel
theorem dL_law_1077 : decode cL_law 1077 = .ok (.invokevirtual 146, 3) := by decide +kernel
theorem dL_law_1080 : decode cL_law 1080 = .ok (.aload_n 2, 1) := by decide +kernel
theorem dL_law_1081 : decode cL_law 1081 = .ok (.invokevirtual 149, 3) := by decide +kernel
theorem dL_law_1084 : decode cL_law 1084 = .ok (.if_icmp .eq 681, 3) := by decide +kernel
theorem dL_law_1089 : decode cL_law 1089 = .ok (.aload_n 1, 1) := by decide +kernel
theorem dL_law_1090 : decode cL_law 1090 = .ok (.invokevirtual 150, 3) := by decide +kernel
theorem dL_law_1093 : decode cL_law 1093 = .ok (.aload_n 2, 1) := by decide +kernel
theorem dL_law_1094 : decode cL_law 1094 = .ok (.invokevirtual 153, 3) := by decide +kernel
theorem dL_law_1097 : decode cL_law 1097 = .ok (.if_icmp .eq 668, 3) := by decide +kernel
theorem dL_law_1102 : decode cL_law 1102 = .ok (.aload_n 1, 1) := by decide +kernel
theorem dL_law_1103 : decode cL_law 1103 = .ok (.aload_n 0, 1) := by decide +kernel
theorem dL_law_1104 : decode cL_law 1104 = .ok (.iload 4, 2) := by decide +kernel
theorem dL_law_1106 : decode cL_law 1106 = .ok (.iconst 1, 1) := by decide +kernel
theorem dL_law_1107 : decode cL_law 1107 = .ok (.iadd, 1) := by decide +kernel
theorem dL_law_1108 : decode cL_law 1108 = .ok (.iaload, 1) := by decide +kernel
theorem dL_law_1109 : decode cL_law 1109 = .ok (.aload_n 3, 1) := by decide +kernel
theorem dL_law_1110 : decode cL_law 1110 = .ok (.invokestatic 154, 3) := by decide +kernel
theorem dL_law_1113 : decode cL_law 1113 = .ok (.istore 5, 2) := by decide +kernel
theorem dL_law_1115 : decode cL_law 1115 = .ok (.aload_n 2, 1) := by decide +kernel
theorem dL_law_1116 : decode cL_law 1116 = .ok (.aload_n 0, 1) := by decide +kernel
theorem dL_law_1117 : decode cL_law 1117 = .ok (.iload 4, 2) := by decide +kernel
theorem dL_law_1119 : decode cL_law 1119 = .ok (.iconst 1, 1) := by decide +kernel
theorem dL_law_1120 : decode cL_law 1120 = .ok (.iadd, 1) := by decide +kernel
theorem dL_law_1121 : decode cL_law 1121 = .ok (.iaload, 1) := by decide +kernel
theorem dL_law_1122 : decode cL_law 1122 = .ok (.invokevirtual 157, 3) := by decide +kernel
theorem dL_law_1125 : decode cL_law 1125 = .ok (.lstore 6, 2) := by decide +kernel
theorem dL_law_1127 : decode cL_law 1127 = .ok (.aload_n 2, 1) := by decide +kernel
theorem dL_law_1128 : decode cL_law 1128 = .ok (.invokevirtual 61, 3) := by decide +kernel
theorem dL_law_1131 : decode cL_law 1131 = .ok (.iload 5, 2) := by decide +kernel
theorem dL_law_1133 : decode cL_law 1133 = .ok (.if_icmp .eq 5, 3) := by decide +kernel
theorem dL_law_1138 : decode cL_law 1138 = .ok (.iload 5, 2) := by decide +kernel
theorem dL_law_1140 : decode cL_law 1140 = .ok (.ifCond .ne 14, 3) := by decide +kernel
theorem dL_law_1154 : decode cL_law 1154 = .ok (.goto 611, 3) := by decide +kernel
theorem dL_law_1157 : decode cL_law 1157 = .ok (.aload_n 1, 1) := by decide +kernel
theorem dL_law_1158 : decode cL_law 1158 = .ok (.invokevirtual 158, 3) := by decide +kernel
theorem dL_law_1161 : decode cL_law 1161 = .ok (.aload_n 2, 1) := by decide +kernel
theorem dL_law_1162 : decode cL_law 1162 = .ok (.invokevirtual 161, 3) := by decide +kernel
theorem dL_law_1165 : decode cL_law 1165 = .ok (.if_icmp .eq 600, 3) := by decide +kernel
theorem dL_law_1170 : decode cL_law 1170 = .ok (.aload_n 1, 1) := by decide +kernel
theorem dL_law_1171 : decode cL_law 1171 = .ok (.aload_n 0, 1) := by decide +kernel
theorem dL_law_1172 : decode cL_law 1172 = .ok (.iload 4, 2) := by decide +kernel
theorem dL_law_1174 : decode cL_law 1174 = .ok (.iconst 1, 1) := by decide +kernel
theorem dL_law_1175 : decode cL_law 1175 = .ok (.iadd, 1) := by decide +kernel
theorem dL_law_1176 : decode cL_law 1176 = .ok (.iaload, 1) := by decide +kernel
theorem dL_law_1177 : decode cL_law 1177 = .ok (.ifCond .eq 7, 3) := by decide +kernel
theorem dL_law_1180 : decode cL_law 1180 = .ok (.iconst 1, 1) := by decide +kernel
theorem dL_law_1181 : decode cL_law 1181 = .ok (.goto 4, 3) := by decide +kernel
theorem dL_law_1184 : decode cL_law 1184 = .ok (.iconst 0, 1) := by decide +kernel
theorem dL_law_1185 : decode cL_law 1185 = .ok (.invokevirtual 162, 3) := by decide +kernel
theorem dL_law_1188 : decode cL_law 1188 = .ok (.aload_n 2, 1) := by decide +kernel
theorem dL_law_1189 : decode cL_law 1189 = .ok (.aload_n 0, 1) := by decide +kernel
theorem dL_law_1190 : decode cL_law 1190 = .ok (.iload 4, 2) := by decide +kernel
theorem dL_law_1192 : decode cL_law 1192 = .ok (.iconst 1, 1) := by decide +kernel
theorem dL_law_1193 : decode cL_law 1193 = .ok (.iadd, 1) := by decide +kernel
theorem dL_law_1194 : decode cL_law 1194 = .ok (.iaload, 1) := by decide +kernel
theorem dL_law_1195 : decode cL_law 1195 = .ok (.ifCond .eq 7, 3) := by decide +kernel
theorem dL_law_1198 : decode cL_law 1198 = .ok (.iconst 1, 1) := by decide +kernel
theorem dL_law_1199 : decode cL_law 1199 = .ok (.goto 4, 3) := by decide +kernel
theorem dL_law_1202 : decode cL_law 1202 = .ok (.iconst 0, 1) := by decide +kernel
theorem dL_law_1203 : decode cL_law 1203 = .ok (.invokevirtual 166, 3) := by decide +kernel
theorem dL_law_1206 : decode cL_law 1206 = .ok (.if_icmp .eq 559, 3) := by decide +kernel
theorem dL_law_1211 : decode cL_law 1211 = .ok (.aload_n 1, 1) := by decide +kernel
theorem dL_law_1212 : decode cL_law 1212 = .ok (.invokevirtual 167, 3) := by decide +kernel
theorem dL_law_1215 : decode cL_law 1215 = .ok (.aload_n 2, 1) := by decide +kernel
theorem dL_law_1216 : decode cL_law 1216 = .ok (.invokevirtual 171, 3) := by decide +kernel
theorem dL_law_1219 : decode cL_law 1219 = .ok (.lcmp, 1) := by decide +kernel
theorem dL_law_1220 : decode cL_law 1220 = .ok (.ifCond .eq 545, 3) := by decide +kernel
theorem dL_law_1225 : decode cL_law 1225 = .ok (.aload_n 1, 1) := by decide +kernel
theorem dL_law_1226 : decode cL_law 1226 = .ok (.invokevirtual 172, 3) := by decide +kernel
theorem dL_law_1229 : decode cL_law 1229 = .ok (.aload_n 2, 1) := by decide +kernel
theorem dL_law_1230 : decode cL_law 1230 = .ok (.invokevirtual 175, 3) := by decide +kernel
theorem dL_law_1233 : decode cL_law 1233 = .ok (.if_icmp .eq 532, 3) := by decide +kernel
set_option maxHeartbeats 400000000 in
set_option maxRecDepth 100000 in
theorem law_8_8 {p : Program} {l : Launch} {e : Env} {s : State} {m : MethodId} {below : List Frame} {meth : Method} {c : Code} {b : Nat} {xs : Nat → Int32} (E : kE) (D : va_G) (cI cJ cB cZ : ClassId) (A : Nat → Prop) (Q : State → Prop) (h0 : Nat) (h1 : Nat) (h2 : Nat) (f0 : List Value) (h3 : Nat) (f1 : List Value) (f2 : List Value) (e0 : f0[1]? = some (.ref h3)) (e1 : f1[8]? = some (.int 0)) (e2 : f0[14]? = some (.int 0)) (e3 : ¬ (((xs 1) : Int32) = 4)) (e4 : ((xs 1) : Int32) = 7) (e5 : f2[0]? = some (.int 0)) (e6 : f2[5]? = some (.int 0)) (e7 : f2[33]? = some (.int 0)) (e8 : f2[16]? = some (.int 0)) (X9 : kLaw p l s m c b xs E D cI cJ cB cZ A) (T9 : kTail p l e s m b below meth c A Q) {H : Heap} {locs : List Loc} {ls : Array Slot} (hP : va_P D vwCl [(h0, .inr (11, f0)), (h3, .inr (1, f1)), (h1, .inr (12, f2))] H) (hD : va_D A [(h0, .inr (11, f0)), (h3, .inr (1, f1)), (h1, .inr (12, f2))]) (hS : va_S A s.heap H locs) (hl : lv_has ls 8 [(0, .ref b), (1, .ref h0), (2, .ref h1), (3, .ref h2), (4, .int 0)]) : W p l e room_1 s m #[Value.ref b] below meth c H locs 218 1205840 Q (F0 m 588 ls []) := by
  obtain ⟨hl9, hx, hb, hml, hown, hts, hN, hX, hAE, hK, hA, hXs, hbl, hbA⟩ := X9
  refine lv_aload_n hx hb dL_law_588 rfl (lv_at hl 1 rfl) ?_
  refine lv_aload_n hx hb dL_law_589 rfl (lv_at hl 0 rfl) ?_
  refine lv_iload hx hb dL_law_590 (lv_at hl 4 rfl) ?_
  refine lv_iconst (v := 1) hx hb dL_law_592 (by decide) ?_
  refine lv_iadd hx hb dL_law_593 ?_
  refine k_topi (y := 1) (by decide) ?_
  refine va_sld (xs := xs) hx hb hXs hbl hbA hS (k_in (by decide)) dL_law_594 ?_
  refine k_topi (y := (xs 1)) (congrArg xs (by decide)) ?_
  refine k_cVi (As := [.int (xs 1)]) (rest := []) (wc := [(h0, .inr (11, f0)), (h3, .inr (1, f1))]) (wr := [(h1, .inr (12, f2))]) (w1 := [(h0, .inr (11, f0)), (h3, .inr (1, f1))]) ⟨hx, hb, hml, hown, hts⟩ hN hX hAE hK hP hD hS hA [0, 1] [2] (ci := 11) rfl rfl rfl rfl (by decide +kernel) (by decide +kernel) (by decide +kernel) (c_X11_count_9 l E D cI cJ cB cZ h0 (xs 1) f0 h3 f1 e3 e0 e1 e4 e2) (cwV 1 hts g9_L_law_X11_count_93 rfl rfl rfl (by decide +kernel) ⟨Nat.le_of_ble_eq_true rfl, Nat.le_of_ble_eq_true rfl⟩) rfl hl.1 (Nat.le_of_ble_eq_true rfl) dL_law_595 ⟨Nat.le_of_ble_eq_true rfl, Nat.le_of_ble_eq_true rfl⟩ (fun H locs hP hD hS => ?_)
  have hP : va_P D vwCl [(h1, .inr (12, f2)), (h0, .inr (11, f0)), (h3, .inr (1, f1))] H := hP
  have hD : va_D A [(h1, .inr (12, f2)), (h0, .inr (11, f0)), (h3, .inr (1, f1))] := hD
  refine lv_aload_n hx hb dL_law_598 rfl (lv_at hl 2 rfl) ?_
  refine lv_aload_n hx hb dL_law_599 rfl (lv_at hl 0 rfl) ?_
  refine lv_iload hx hb dL_law_600 (lv_at hl 4 rfl) ?_
  refine lv_iconst (v := 1) hx hb dL_law_602 (by decide) ?_
  refine lv_iadd hx hb dL_law_603 ?_
  refine k_topi (y := 1) (by decide) ?_
  refine va_sld (xs := xs) hx hb hXs hbl hbA hS (k_in (by decide)) dL_law_604 ?_
  refine k_topi (y := (xs 1)) (congrArg xs (by decide)) ?_
  refine k_cVi (As := [.int (xs 1)]) (rest := [.int 0]) (wc := [(h1, .inr (12, f2))]) (wr := [(h0, .inr (11, f0)), (h3, .inr (1, f1))]) (w1 := [(h1, .inr (12, (f2.set 0 (.int 0))))]) ⟨hx, hb, hml, hown, hts⟩ hN hX hAE hK hP hD hS hA [0] [1, 2] (ci := 12) rfl rfl rfl rfl (by decide +kernel) (by decide +kernel) (by decide +kernel) (c_X12_count_9 l E D cI cJ cB cZ h1 (xs 1) f2 e5 e3 e6 e7 e4 e8) (cwV 1 hts g9_L_law_X12_count_97 rfl rfl rfl (by decide +kernel) ⟨Nat.le_of_ble_eq_true rfl, Nat.le_of_ble_eq_true rfl⟩) rfl hl.1 (Nat.le_of_ble_eq_true rfl) dL_law_605 ⟨Nat.le_of_ble_eq_true rfl, Nat.le_of_ble_eq_true rfl⟩ (fun H locs hP hD hS => ?_)
  have hP : va_P D vwCl [(h0, .inr (11, f0)), (h3, .inr (1, f1)), (h1, .inr (12, (f2.set 0 (.int 0))))] H := hP
  have hD : va_D A [(h0, .inr (11, f0)), (h3, .inr (1, f1)), (h1, .inr (12, (f2.set 0 (.int 0))))] := hD
  refine lv_icmp_eq (tgt := 1765) hx hb dL_law_608 (by decide) (fun _ => ?_) (fun c9 => absurd (by decide) c9)
  refine W.widen (k := 601024) (n := 7293034) (Nat.le_of_ble_eq_true rfl) (Nat.le_of_ble_eq_true rfl) ?_
  exact T9 _ _ _ hS (lv_sub hl [0, 4] rfl)
set_option maxHeartbeats 400000000 in
set_option maxRecDepth 100000 in
theorem law_8_9 {p : Program} {l : Launch} {e : Env} {s : State} {m : MethodId} {below : List Frame} {meth : Method} {c : Code} {b : Nat} {xs : Nat → Int32} (E : kE) (D : va_G) (cI cJ cB cZ : ClassId) (A : Nat → Prop) (Q : State → Prop) (h0 : Nat) (h1 : Nat) (h2 : Nat) (f0 : List Value) (h3 : Nat) (f1 : List Value) (f2 : List Value) (e0 : ¬ (((xs 1) : Int32) = 4)) (e1 : f0[1]? = some (.ref h3)) (e2 : f1[8]? = some (.int 0)) (e3 : ¬ (((xs 1) : Int32) < 8)) (e4 : f2[0]? = some (.int 0)) (e5 : f2[5]? = some (.int 0)) (e6 : f2[33]? = some (.int 0)) (X9 : kLaw p l s m c b xs E D cI cJ cB cZ A) (T9 : kTail p l e s m b below meth c A Q) {H : Heap} {locs : List Loc} {ls : Array Slot} (hP : va_P D vwCl [(h0, .inr (11, f0)), (h3, .inr (1, f1)), (h1, .inr (12, f2))] H) (hD : va_D A [(h0, .inr (11, f0)), (h3, .inr (1, f1)), (h1, .inr (12, f2))]) (hS : va_S A s.heap H locs) (hl : lv_has ls 8 [(0, .ref b), (1, .ref h0), (2, .ref h1), (3, .ref h2), (4, .int 0)]) : W p l e room_1 s m #[Value.ref b] below meth c H locs 218 1205840 Q (F0 m 588 ls []) := by
  obtain ⟨hl9, hx, hb, hml, hown, hts, hN, hX, hAE, hK, hA, hXs, hbl, hbA⟩ := X9
  refine lv_aload_n hx hb dL_law_588 rfl (lv_at hl 1 rfl) ?_
  refine lv_aload_n hx hb dL_law_589 rfl (lv_at hl 0 rfl) ?_
  refine lv_iload hx hb dL_law_590 (lv_at hl 4 rfl) ?_
  refine lv_iconst (v := 1) hx hb dL_law_592 (by decide) ?_
  refine lv_iadd hx hb dL_law_593 ?_
  refine k_topi (y := 1) (by decide) ?_
  refine va_sld (xs := xs) hx hb hXs hbl hbA hS (k_in (by decide)) dL_law_594 ?_
  refine k_topi (y := (xs 1)) (congrArg xs (by decide)) ?_
  refine k_cVi (As := [.int (xs 1)]) (rest := []) (wc := [(h0, .inr (11, f0)), (h3, .inr (1, f1))]) (wr := [(h1, .inr (12, f2))]) (w1 := [(h0, .inr (11, f0)), (h3, .inr (1, f1))]) ⟨hx, hb, hml, hown, hts⟩ hN hX hAE hK hP hD hS hA [0, 1] [2] (ci := 11) rfl rfl rfl rfl (by decide +kernel) (by decide +kernel) (by decide +kernel) (c_X11_count_7 l E D cI cJ cB cZ h0 (xs 1) f0 h3 f1 e0 e1 e2 e3) (cwV 1 hts g9_L_law_X11_count_93 rfl rfl rfl (by decide +kernel) ⟨Nat.le_of_ble_eq_true rfl, Nat.le_of_ble_eq_true rfl⟩) rfl hl.1 (Nat.le_of_ble_eq_true rfl) dL_law_595 ⟨Nat.le_of_ble_eq_true rfl, Nat.le_of_ble_eq_true rfl⟩ (fun H locs hP hD hS => ?_)
  have hP : va_P D vwCl [(h1, .inr (12, f2)), (h0, .inr (11, f0)), (h3, .inr (1, f1))] H := hP
  have hD : va_D A [(h1, .inr (12, f2)), (h0, .inr (11, f0)), (h3, .inr (1, f1))] := hD
  refine lv_aload_n hx hb dL_law_598 rfl (lv_at hl 2 rfl) ?_
  refine lv_aload_n hx hb dL_law_599 rfl (lv_at hl 0 rfl) ?_
  refine lv_iload hx hb dL_law_600 (lv_at hl 4 rfl) ?_
  refine lv_iconst (v := 1) hx hb dL_law_602 (by decide) ?_
  refine lv_iadd hx hb dL_law_603 ?_
  refine k_topi (y := 1) (by decide) ?_
  refine va_sld (xs := xs) hx hb hXs hbl hbA hS (k_in (by decide)) dL_law_604 ?_
  refine k_topi (y := (xs 1)) (congrArg xs (by decide)) ?_
  refine k_cVi (As := [.int (xs 1)]) (rest := [.int (-1)]) (wc := [(h1, .inr (12, f2))]) (wr := [(h0, .inr (11, f0)), (h3, .inr (1, f1))]) (w1 := [(h1, .inr (12, (f2.set 0 (.int 0))))]) ⟨hx, hb, hml, hown, hts⟩ hN hX hAE hK hP hD hS hA [0] [1, 2] (ci := 12) rfl rfl rfl rfl (by decide +kernel) (by decide +kernel) (by decide +kernel) (c_X12_count_7 l E D cI cJ cB cZ h1 (xs 1) f2 e4 e0 e5 e6 e3) (cwV 1 hts g9_L_law_X12_count_97 rfl rfl rfl (by decide +kernel) ⟨Nat.le_of_ble_eq_true rfl, Nat.le_of_ble_eq_true rfl⟩) rfl hl.1 (Nat.le_of_ble_eq_true rfl) dL_law_605 ⟨Nat.le_of_ble_eq_true rfl, Nat.le_of_ble_eq_true rfl⟩ (fun H locs hP hD hS => ?_)
  have hP : va_P D vwCl [(h0, .inr (11, f0)), (h3, .inr (1, f1)), (h1, .inr (12, (f2.set 0 (.int 0))))] H := hP
  have hD : va_D A [(h0, .inr (11, f0)), (h3, .inr (1, f1)), (h1, .inr (12, (f2.set 0 (.int 0))))] := hD
  refine lv_icmp_eq (tgt := 1765) hx hb dL_law_608 (by decide) (fun _ => ?_) (fun c9 => absurd (by decide) c9)
  refine W.widen (k := 601024) (n := 7293034) (Nat.le_of_ble_eq_true rfl) (Nat.le_of_ble_eq_true rfl) ?_
  exact T9 _ _ _ hS (lv_sub hl [0, 4] rfl)
set_option maxHeartbeats 400000000 in
set_option maxRecDepth 100000 in
theorem law_9_0 {p : Program} {l : Launch} {e : Env} {s : State} {m : MethodId} {below : List Frame} {meth : Method} {c : Code} {b : Nat} {xs : Nat → Int32} (E : kE) (D : va_G) (cI cJ cB cZ : ClassId) (A : Nat → Prop) (Q : State → Prop) (h0 : Nat) (h1 : Nat) (h2 : Nat) (f0 : List Value) (h3 : Nat) (f1 : List Value) (h4 : Nat) (f2 : List Value) (h5 : Nat) (h6 : Nat) (f3 : List Value) (h7 : Nat) (f4 : List Value) (h8 : Nat) (h9 : Nat) (h10 : Nat) (h11 : Nat) (g0 : Nat → Int32) (g1 : Nat → Int32) (g2 : Nat → Int32) (f5 : List Value) (h12 : Nat) (h13 : Nat) (h14 : Nat) (h15 : Nat) (h16 : Nat) (g3 : Nat → Int32) (g4 : Nat → Int32) (g5 : Nat → Int32) (g6 : Nat → Int32) (g7 : Nat → Int32) (e0 : f0[1]? = some (.ref h3)) (e1 : f1[8]? = some (.int 0)) (e2 : f0[12]? = some (.int 0)) (e3 : f0[2]? = some (.ref h4)) (e4 : f2[10]? = some (.int 0)) (e5 : f2[11]? = some (.int 0)) (e6 : f2[12]? = some (.int 0)) (e7 : f0[5]? = some (.ref h5)) (e8 : f0[0]? = some (.ref h6)) (e9 : f3[0]? = some (.ref h7)) (e10 : f4[6]? = some (.ref h8)) (e11 : f4[7]? = some (.int 0)) (e12 : f4[8]? = some (.int 0)) (e13 : f4[5]? = some (.int 0)) (e14 : f4[1]? = some (.ref h9)) (e15 : f4[2]? = some (.ref h10)) (e16 : f3[3]? = some (.int 0)) (e17 : f3[4]? = some (.int 0)) (e18 : f3[5]? = some (.int 0)) (e19 : f3[6]? = some (.int 0)) (e20 : f3[7]? = some (.int 0)) (e21 : f3[8]? = some (.int 0)) (e22 : f3[1]? = some (.ref h4)) (e23 : f1[4]? = some (.int 0)) (e24 : f1[5]? = some (.int 0)) (e25 : f2[13]? = some (.int 0)) (e26 : f1[3]? = some (.ref h11)) (e27 : f0[14]? = some (.int 0)) (e28 : f5[0]? = some (.int 0)) (e29 : f5[5]? = some (.int 0)) (e30 : f5[15]? = some (.int 0)) (e31 : f5[13]? = some (.int 0)) (e32 : f5[14]? = some (.int 0)) (e33 : f5[2]? = some (.int 0)) (e34 : f5[12]? = some (.int 0)) (e35 : f5[32]? = some (.int 0)) (e36 : f5[36]? = some (.int 0)) (e37 : f5[33]? = some (.int 0)) (e38 : f5[37]? = some (.int 0)) (e39 : f5[27]? = some (.int 0)) (e40 : f5[31]? = some (.int 0)) (e41 : f5[28]? = some (.int 0)) (e42 : f5[23]? = some (.ref h12)) (e43 : f5[24]? = some (.ref h13)) (e44 : f5[25]? = some (.ref h14)) (e45 : f5[26]? = some (.ref h15)) (e46 : f5[9]? = some (.int 0)) (e47 : f5[4]? = some (.int 0)) (e48 : f5[16]? = some (.int 0)) (e49 : f5[8]? = some (.ref h16)) (X9 : kLaw p l s m c b xs E D cI cJ cB cZ A) (T9 : kTail p l e s m b below meth c A Q) {H : Heap} {locs : List Loc} {ls : Array Slot} (hP : va_P D vwCl [(h0, .inr (11, f0)), (h3, .inr (1, f1)), (h4, .inr (2, f2)), (h5, .inr (8, f3)), (h7, .inr (3, f4)), (h9, .inl (cI, 2001, .inl g0)), (h10, .inl (cI, 2001, .inl g1)), (h11, .inl (cB, 24800, .inl g2)), (h1, .inr (12, f5)), (h12, .inl (cI, 2001, .inl g3)), (h13, .inl (cI, 2001, .inl g4)), (h14, .inl (cI, 2001, .inl g5)), (h15, .inl (cI, 2001, .inl g6)), (h16, .inl (cB, 24800, .inl g7))] H) (hD : va_D A [(h0, .inr (11, f0)), (h3, .inr (1, f1)), (h4, .inr (2, f2)), (h5, .inr (8, f3)), (h7, .inr (3, f4)), (h9, .inl (cI, 2001, .inl g0)), (h10, .inl (cI, 2001, .inl g1)), (h11, .inl (cB, 24800, .inl g2)), (h1, .inr (12, f5)), (h12, .inl (cI, 2001, .inl g3)), (h13, .inl (cI, 2001, .inl g4)), (h14, .inl (cI, 2001, .inl g5)), (h15, .inl (cI, 2001, .inl g6)), (h16, .inl (cB, 24800, .inl g7))]) (hS : va_S A s.heap H locs) (hl : lv_has ls 8 [(0, .ref b), (1, .ref h0), (2, .ref h1), (3, .ref h2), (4, .int 0)]) : W p l e room_1 s m #[Value.ref b] below meth c H locs 218 1205840 Q (F0 m 613 ls []) := by
  obtain ⟨hl9, hx, hb, hml, hown, hts, hN, hX, hAE, hK, hA, hXs, hbl, hbA⟩ := X9
  refine lv_aload_n hx hb dL_law_613 rfl (lv_at hl 1 rfl) ?_
  refine k_cVi (As := []) (rest := []) (wc := [(h0, .inr (11, f0)), (h3, .inr (1, f1)), (h4, .inr (2, f2)), (h5, .inr (8, f3)), (h7, .inr (3, f4)), (h9, .inl (cI, 2001, .inl g0)), (h10, .inl (cI, 2001, .inl g1)), (h11, .inl (cB, 24800, .inl g2))]) (wr := [(h1, .inr (12, f5)), (h12, .inl (cI, 2001, .inl g3)), (h13, .inl (cI, 2001, .inl g4)), (h14, .inl (cI, 2001, .inl g5)), (h15, .inl (cI, 2001, .inl g6)), (h16, .inl (cB, 24800, .inl g7))]) (w1 := [(h0, .inr (11, ((f0.set 12 (.int 0)).set 14 (.int 1)))), (h3, .inr (1, (((f1.set 4 (.int 1)).set 4 (.int 2)).set 4 (.int 3)))), (h4, .inr (2, (f2.set 13 (.int 0)))), (h5, .inr (8, (((((((f3.set 3 (.int 0)).set 4 (.int 0)).set 5 (.int 0)).set 6 (.int (-1))).set 6 (.int 0)).set 7 (.int 0)).set 8 (.int 0)))), (h7, .inr (3, ((((f4.set 6 (.ref h6)).set 7 (.int 0)).set 8 (.int 0)).set 5 (.int 0)))), (h9, .inl (cI, 2001, .inl (upd g0 0 0))), (h10, .inl (cI, 2001, .inl (upd g1 0 0))), (h11, .inl (cB, 24800, .inl (upd (upd (upd g2 0 1) 1 0) 2 0)))]) ⟨hx, hb, hml, hown, hts⟩ hN hX hAE hK hP hD hS hA [0, 1, 2, 3, 4, 5, 6, 7] [8, 9, 10, 11, 12, 13] (ci := 11) rfl rfl rfl rfl (by decide +kernel) (by decide +kernel) (by decide +kernel) (c_X11_read_0 l E D cI cJ cB cZ h0 f0 h3 f1 h4 f2 h5 h6 f3 h7 f4 h8 h9 h10 g0 g1 h11 g2 e0 e1 e2 e3 e4 e5 e6 e7 e8 e9 e10 e11 e12 e13 e14 e15 e16 e17 e18 e19 e20 e21 e22 e23 e24 e25 e26 e27) (cwV 0 hts g9_L_law_X11_read_98 rfl rfl rfl (by decide +kernel) ⟨Nat.le_of_ble_eq_true rfl, Nat.le_of_ble_eq_true rfl⟩) rfl hl.1 (Nat.le_of_ble_eq_true rfl) dL_law_614 ⟨Nat.le_of_ble_eq_true rfl, Nat.le_of_ble_eq_true rfl⟩ (fun H locs hP hD hS => ?_)
  have hP : va_P D vwCl [(h1, .inr (12, f5)), (h12, .inl (cI, 2001, .inl g3)), (h13, .inl (cI, 2001, .inl g4)), (h14, .inl (cI, 2001, .inl g5)), (h15, .inl (cI, 2001, .inl g6)), (h16, .inl (cB, 24800, .inl g7)), (h0, .inr (11, ((f0.set 12 (.int 0)).set 14 (.int 1)))), (h3, .inr (1, (((f1.set 4 (.int 1)).set 4 (.int 2)).set 4 (.int 3)))), (h4, .inr (2, (f2.set 13 (.int 0)))), (h5, .inr (8, (((((((f3.set 3 (.int 0)).set 4 (.int 0)).set 5 (.int 0)).set 6 (.int (-1))).set 6 (.int 0)).set 7 (.int 0)).set 8 (.int 0)))), (h7, .inr (3, ((((f4.set 6 (.ref h6)).set 7 (.int 0)).set 8 (.int 0)).set 5 (.int 0)))), (h9, .inl (cI, 2001, .inl (upd g0 0 0))), (h10, .inl (cI, 2001, .inl (upd g1 0 0))), (h11, .inl (cB, 24800, .inl (upd (upd (upd g2 0 1) 1 0) 2 0)))] H := hP
  have hD : va_D A [(h1, .inr (12, f5)), (h12, .inl (cI, 2001, .inl g3)), (h13, .inl (cI, 2001, .inl g4)), (h14, .inl (cI, 2001, .inl g5)), (h15, .inl (cI, 2001, .inl g6)), (h16, .inl (cB, 24800, .inl g7)), (h0, .inr (11, ((f0.set 12 (.int 0)).set 14 (.int 1)))), (h3, .inr (1, (((f1.set 4 (.int 1)).set 4 (.int 2)).set 4 (.int 3)))), (h4, .inr (2, (f2.set 13 (.int 0)))), (h5, .inr (8, (((((((f3.set 3 (.int 0)).set 4 (.int 0)).set 5 (.int 0)).set 6 (.int (-1))).set 6 (.int 0)).set 7 (.int 0)).set 8 (.int 0)))), (h7, .inr (3, ((((f4.set 6 (.ref h6)).set 7 (.int 0)).set 8 (.int 0)).set 5 (.int 0)))), (h9, .inl (cI, 2001, .inl (upd g0 0 0))), (h10, .inl (cI, 2001, .inl (upd g1 0 0))), (h11, .inl (cB, 24800, .inl (upd (upd (upd g2 0 1) 1 0) 2 0)))] := hD
  refine lv_aload_n hx hb dL_law_617 rfl (lv_at hl 2 rfl) ?_
  refine k_cVi (As := []) (rest := [.int 0]) (wc := [(h1, .inr (12, f5)), (h12, .inl (cI, 2001, .inl g3)), (h13, .inl (cI, 2001, .inl g4)), (h14, .inl (cI, 2001, .inl g5)), (h15, .inl (cI, 2001, .inl g6)), (h16, .inl (cB, 24800, .inl g7))]) (wr := [(h0, .inr (11, ((f0.set 12 (.int 0)).set 14 (.int 1)))), (h3, .inr (1, (((f1.set 4 (.int 1)).set 4 (.int 2)).set 4 (.int 3)))), (h4, .inr (2, (f2.set 13 (.int 0)))), (h5, .inr (8, (((((((f3.set 3 (.int 0)).set 4 (.int 0)).set 5 (.int 0)).set 6 (.int (-1))).set 6 (.int 0)).set 7 (.int 0)).set 8 (.int 0)))), (h7, .inr (3, ((((f4.set 6 (.ref h6)).set 7 (.int 0)).set 8 (.int 0)).set 5 (.int 0)))), (h9, .inl (cI, 2001, .inl (upd g0 0 0))), (h10, .inl (cI, 2001, .inl (upd g1 0 0))), (h11, .inl (cB, 24800, .inl (upd (upd (upd g2 0 1) 1 0) 2 0)))]) (w1 := [(h1, .inr (12, (((((((((((((((((f5.set 0 (.int 0)).set 15 (.int 1)).set 13 (.int 0)).set 14 (.int 0)).set 12 (.int 0)).set 2 (.int 0)).set 36 (.int 0)).set 37 (.int 0)).set 27 (.int 0)).set 31 (.int 0)).set 28 (.int 0)).set 32 (.int 0)).set 33 (.int 0)).set 16 (.int 1)).set 9 (.int 1)).set 9 (.int 2)).set 9 (.int 3)))), (h12, .inl (cI, 2001, .inl (upd g3 0 0))), (h13, .inl (cI, 2001, .inl (upd g4 0 0))), (h14, .inl (cI, 2001, .inl (upd g5 0 0))), (h15, .inl (cI, 2001, .inl (upd g6 0 0))), (h16, .inl (cB, 24800, .inl (upd (upd (upd g7 0 1) 1 0) 2 0)))]) ⟨hx, hb, hml, hown, hts⟩ hN hX hAE hK hP hD hS hA [0, 1, 2, 3, 4, 5] [6, 7, 8, 9, 10, 11, 12, 13] (ci := 12) rfl rfl rfl rfl (by decide +kernel) (by decide +kernel) (by decide +kernel) (c_X12_read_0 l E D cI cJ cB cZ h1 f5 h12 h13 h14 h15 h16 g3 g4 g5 g6 g7 e28 e29 e30 e31 e32 e33 e34 e35 e36 e37 e38 e39 e40 e41 e42 e43 e44 e45 e46 e47 e48 e49) (cwV 0 hts g9_L_law_X12_read_101 rfl rfl rfl (by decide +kernel) ⟨Nat.le_of_ble_eq_true rfl, Nat.le_of_ble_eq_true rfl⟩) rfl hl.1 (Nat.le_of_ble_eq_true rfl) dL_law_618 ⟨Nat.le_of_ble_eq_true rfl, Nat.le_of_ble_eq_true rfl⟩ (fun H locs hP hD hS => ?_)
  have hP : va_P D vwCl [(h0, .inr (11, ((f0.set 12 (.int 0)).set 14 (.int 1)))), (h3, .inr (1, (((f1.set 4 (.int 1)).set 4 (.int 2)).set 4 (.int 3)))), (h4, .inr (2, (f2.set 13 (.int 0)))), (h5, .inr (8, (((((((f3.set 3 (.int 0)).set 4 (.int 0)).set 5 (.int 0)).set 6 (.int (-1))).set 6 (.int 0)).set 7 (.int 0)).set 8 (.int 0)))), (h7, .inr (3, ((((f4.set 6 (.ref h6)).set 7 (.int 0)).set 8 (.int 0)).set 5 (.int 0)))), (h9, .inl (cI, 2001, .inl (upd g0 0 0))), (h10, .inl (cI, 2001, .inl (upd g1 0 0))), (h11, .inl (cB, 24800, .inl (upd (upd (upd g2 0 1) 1 0) 2 0))), (h1, .inr (12, (((((((((((((((((f5.set 0 (.int 0)).set 15 (.int 1)).set 13 (.int 0)).set 14 (.int 0)).set 12 (.int 0)).set 2 (.int 0)).set 36 (.int 0)).set 37 (.int 0)).set 27 (.int 0)).set 31 (.int 0)).set 28 (.int 0)).set 32 (.int 0)).set 33 (.int 0)).set 16 (.int 1)).set 9 (.int 1)).set 9 (.int 2)).set 9 (.int 3)))), (h12, .inl (cI, 2001, .inl (upd g3 0 0))), (h13, .inl (cI, 2001, .inl (upd g4 0 0))), (h14, .inl (cI, 2001, .inl (upd g5 0 0))), (h15, .inl (cI, 2001, .inl (upd g6 0 0))), (h16, .inl (cB, 24800, .inl (upd (upd (upd g7 0 1) 1 0) 2 0)))] H := hP
  have hD : va_D A [(h0, .inr (11, ((f0.set 12 (.int 0)).set 14 (.int 1)))), (h3, .inr (1, (((f1.set 4 (.int 1)).set 4 (.int 2)).set 4 (.int 3)))), (h4, .inr (2, (f2.set 13 (.int 0)))), (h5, .inr (8, (((((((f3.set 3 (.int 0)).set 4 (.int 0)).set 5 (.int 0)).set 6 (.int (-1))).set 6 (.int 0)).set 7 (.int 0)).set 8 (.int 0)))), (h7, .inr (3, ((((f4.set 6 (.ref h6)).set 7 (.int 0)).set 8 (.int 0)).set 5 (.int 0)))), (h9, .inl (cI, 2001, .inl (upd g0 0 0))), (h10, .inl (cI, 2001, .inl (upd g1 0 0))), (h11, .inl (cB, 24800, .inl (upd (upd (upd g2 0 1) 1 0) 2 0))), (h1, .inr (12, (((((((((((((((((f5.set 0 (.int 0)).set 15 (.int 1)).set 13 (.int 0)).set 14 (.int 0)).set 12 (.int 0)).set 2 (.int 0)).set 36 (.int 0)).set 37 (.int 0)).set 27 (.int 0)).set 31 (.int 0)).set 28 (.int 0)).set 32 (.int 0)).set 33 (.int 0)).set 16 (.int 1)).set 9 (.int 1)).set 9 (.int 2)).set 9 (.int 3)))), (h12, .inl (cI, 2001, .inl (upd g3 0 0))), (h13, .inl (cI, 2001, .inl (upd g4 0 0))), (h14, .inl (cI, 2001, .inl (upd g5 0 0))), (h15, .inl (cI, 2001, .inl (upd g6 0 0))), (h16, .inl (cB, 24800, .inl (upd (upd (upd g7 0 1) 1 0) 2 0)))] := hD
  refine lv_icmp_eq (tgt := 1765) hx hb dL_law_621 (by decide) (fun _ => ?_) (fun c9 => absurd (by decide) c9)
  refine W.widen (k := 601024) (n := 7293034) (Nat.le_of_ble_eq_true rfl) (Nat.le_of_ble_eq_true rfl) ?_
  exact T9 _ _ _ hS (lv_sub hl [0, 4] rfl)
set_option maxHeartbeats 400000000 in
set_option maxRecDepth 100000 in
theorem law_10_0 {p : Program} {l : Launch} {e : Env} {s : State} {m : MethodId} {below : List Frame} {meth : Method} {c : Code} {b : Nat} {xs : Nat → Int32} (E : kE) (D : va_G) (cI cJ cB cZ : ClassId) (A : Nat → Prop) (Q : State → Prop) (h0 : Nat) (h1 : Nat) (h2 : Nat) (f0 : List Value) (f1 : List Value) (e0 : f0[13]? = some (.int 0)) (e1 : f1[0]? = some (.int 0)) (e2 : f1[109]? = some (.int 0)) (X9 : kLaw p l s m c b xs E D cI cJ cB cZ A) (T9 : kTail p l e s m b below meth c A Q) {H : Heap} {locs : List Loc} {ls : Array Slot} (hP : va_P D vwCl [(h0, .inr (11, f0)), (h1, .inr (12, f1))] H) (hD : va_D A [(h0, .inr (11, f0)), (h1, .inr (12, f1))]) (hS : va_S A s.heap H locs) (hl : lv_has ls 8 [(0, .ref b), (1, .ref h0), (2, .ref h1), (3, .ref h2), (4, .int 0)]) : W p l e room_1 s m #[Value.ref b] below meth c H locs 218 1205840 Q (F0 m 626 ls []) := by
  obtain ⟨hl9, hx, hb, hml, hown, hts, hN, hX, hAE, hK, hA, hXs, hbl, hbA⟩ := X9
  refine lv_aload_n hx hb dL_law_626 rfl (lv_at hl 1 rfl) ?_
  refine k_cVi (As := []) (rest := []) (wc := [(h0, .inr (11, f0))]) (wr := [(h1, .inr (12, f1))]) (w1 := [(h0, .inr (11, f0))]) ⟨hx, hb, hml, hown, hts⟩ hN hX hAE hK hP hD hS hA [0] [1] (ci := 11) rfl rfl rfl rfl (by decide +kernel) (by decide +kernel) (by decide +kernel) (c_X11_fault_0 l E D cI cJ cB cZ h0 f0 e0) (cwV 0 hts g9_L_law_X11_fault_102 rfl rfl rfl (by decide +kernel) ⟨Nat.le_of_ble_eq_true rfl, Nat.le_of_ble_eq_true rfl⟩) rfl hl.1 (Nat.le_of_ble_eq_true rfl) dL_law_627 ⟨Nat.le_of_ble_eq_true rfl, Nat.le_of_ble_eq_true rfl⟩ (fun H locs hP hD hS => ?_)
  have hP : va_P D vwCl [(h1, .inr (12, f1)), (h0, .inr (11, f0))] H := hP
  have hD : va_D A [(h1, .inr (12, f1)), (h0, .inr (11, f0))] := hD
  refine lv_aload_n hx hb dL_law_630 rfl (lv_at hl 2 rfl) ?_
  refine k_cVi (As := []) (rest := [.int 0]) (wc := [(h1, .inr (12, f1))]) (wr := [(h0, .inr (11, f0))]) (w1 := [(h1, .inr (12, (f1.set 0 (.int 0))))]) ⟨hx, hb, hml, hown, hts⟩ hN hX hAE hK hP hD hS hA [0] [1] (ci := 12) rfl rfl rfl rfl (by decide +kernel) (by decide +kernel) (by decide +kernel) (c_X12_fault_0 l E D cI cJ cB cZ h1 f1 e1 e2) (cwV 0 hts g9_L_law_X12_fault_105 rfl rfl rfl (by decide +kernel) ⟨Nat.le_of_ble_eq_true rfl, Nat.le_of_ble_eq_true rfl⟩) rfl hl.1 (Nat.le_of_ble_eq_true rfl) dL_law_631 ⟨Nat.le_of_ble_eq_true rfl, Nat.le_of_ble_eq_true rfl⟩ (fun H locs hP hD hS => ?_)
  have hP : va_P D vwCl [(h0, .inr (11, f0)), (h1, .inr (12, (f1.set 0 (.int 0))))] H := hP
  have hD : va_D A [(h0, .inr (11, f0)), (h1, .inr (12, (f1.set 0 (.int 0))))] := hD
  refine lv_icmp_eq (tgt := 1765) hx hb dL_law_634 (by decide) (fun _ => ?_) (fun c9 => absurd (by decide) c9)
  refine W.widen (k := 601024) (n := 7293034) (Nat.le_of_ble_eq_true rfl) (Nat.le_of_ble_eq_true rfl) ?_
  exact T9 _ _ _ hS (lv_sub hl [0, 4] rfl)
set_option maxHeartbeats 400000000 in
set_option maxRecDepth 100000 in
theorem law_11_0 {p : Program} {l : Launch} {e : Env} {s : State} {m : MethodId} {below : List Frame} {meth : Method} {c : Code} {b : Nat} {xs : Nat → Int32} (E : kE) (D : va_G) (cI cJ cB cZ : ClassId) (A : Nat → Prop) (Q : State → Prop) (h0 : Nat) (h1 : Nat) (h2 : Nat) (f0 : List Value) (h3 : Nat) (f1 : List Value) (h4 : Nat) (f2 : List Value) (f3 : List Value) (h5 : Nat) (g0 : Nat → Int32) (e0 : ((xs 2) : Int32) = 0) (e1 : f0[1]? = some (.ref h3)) (e2 : f1[8]? = some (.int 0)) (e3 : f0[2]? = some (.ref h4)) (e4 : ((xs 1) : Int32) < 0) (e5 : f3[10]? = some (.ref h5)) (e6 : f3[0]? = some (.int 0)) (e7 : f3[5]? = some (.int 0)) (e8 : f3[15]? = some (.int 0)) (e9 : f3[13]? = some (.int 0)) (e10 : f3[14]? = some (.int 0)) (e11 : f3[33]? = some (.int 0)) (X9 : kLaw p l s m c b xs E D cI cJ cB cZ A) (T9 : kTail p l e s m b below meth c A Q) {H : Heap} {locs : List Loc} {ls : Array Slot} (hP : va_P D vwCl [(h0, .inr (11, f0)), (h3, .inr (1, f1)), (h4, .inr (2, f2)), (h1, .inr (12, f3)), (h5, .inl (cI, 2, .inl g0))] H) (hD : va_D A [(h0, .inr (11, f0)), (h3, .inr (1, f1)), (h4, .inr (2, f2)), (h1, .inr (12, f3)), (h5, .inl (cI, 2, .inl g0))]) (hS : va_S A s.heap H locs) (hl : lv_has ls 8 [(0, .ref b), (1, .ref h0), (2, .ref h1), (3, .ref h2), (4, .int 0)]) : W p l e room_1 s m #[Value.ref b] below meth c H locs 218 1205840 Q (F0 m 639 ls []) := by
  obtain ⟨hl9, hx, hb, hml, hown, hts, hN, hX, hAE, hK, hA, hXs, hbl, hbA⟩ := X9
  refine lv_aload_n hx hb dL_law_639 rfl (lv_at hl 1 rfl) ?_
  refine lv_aload_n hx hb dL_law_640 rfl (lv_at hl 0 rfl) ?_
  refine lv_iload hx hb dL_law_641 (lv_at hl 4 rfl) ?_
  refine lv_iconst (v := 1) hx hb dL_law_643 (by decide) ?_
  refine lv_iadd hx hb dL_law_644 ?_
  refine k_topi (y := 1) (by decide) ?_
  refine va_sld (xs := xs) hx hb hXs hbl hbA hS (k_in (by decide)) dL_law_645 ?_
  refine k_topi (y := (xs 1)) (congrArg xs (by decide)) ?_
  refine lv_aload_n hx hb dL_law_646 rfl (lv_at hl 0 rfl) ?_
  refine lv_iload hx hb dL_law_647 (lv_at hl 4 rfl) ?_
  refine lv_iconst (v := 2) hx hb dL_law_649 (by decide) ?_
  refine lv_iadd hx hb dL_law_650 ?_
  refine k_topi (y := 2) (by decide) ?_
  refine va_sld (xs := xs) hx hb hXs hbl hbA hS (k_in (by decide)) dL_law_651 ?_
  refine k_topi (y := (xs 2)) (congrArg xs (by decide)) ?_
  refine lv_if_eq (tgt := 659) hx hb dL_law_652 (by decide) (fun _ => ?_) (fun c9 => absurd e0 c9)
  refine lv_iconst (v := 0) hx hb dL_law_659 (by decide) ?_
  refine k_cVi (As := [.int (xs 1), .int 0]) (rest := []) (wc := [(h0, .inr (11, f0)), (h3, .inr (1, f1)), (h4, .inr (2, f2))]) (wr := [(h1, .inr (12, f3)), (h5, .inl (cI, 2, .inl g0))]) (w1 := [(h0, .inr (11, f0)), (h3, .inr (1, f1)), (h4, .inr (2, f2))]) ⟨hx, hb, hml, hown, hts⟩ hN hX hAE hK hP hD hS hA [0, 1, 2] [3, 4] (ci := 11) rfl rfl rfl rfl (by decide +kernel) (by decide +kernel) (by decide +kernel) (c_X11_on_2 l E D cI cJ cB cZ h0 (xs 1) f0 h3 f1 h4 f2 e1 e2 e3 e4) (cwV 2 hts g9_L_law_X11_on_106 rfl rfl rfl (by decide +kernel) ⟨Nat.le_of_ble_eq_true rfl, Nat.le_of_ble_eq_true rfl⟩) rfl hl.1 (Nat.le_of_ble_eq_true rfl) dL_law_660 ⟨Nat.le_of_ble_eq_true rfl, Nat.le_of_ble_eq_true rfl⟩ (fun H locs hP hD hS => ?_)
  have hP : va_P D vwCl [(h1, .inr (12, f3)), (h5, .inl (cI, 2, .inl g0)), (h0, .inr (11, f0)), (h3, .inr (1, f1)), (h4, .inr (2, f2))] H := hP
  have hD : va_D A [(h1, .inr (12, f3)), (h5, .inl (cI, 2, .inl g0)), (h0, .inr (11, f0)), (h3, .inr (1, f1)), (h4, .inr (2, f2))] := hD
  refine lv_aload_n hx hb dL_law_663 rfl (lv_at hl 2 rfl) ?_
  refine lv_aload_n hx hb dL_law_664 rfl (lv_at hl 0 rfl) ?_
  refine lv_iload hx hb dL_law_665 (lv_at hl 4 rfl) ?_
  refine lv_iconst (v := 1) hx hb dL_law_667 (by decide) ?_
  refine lv_iadd hx hb dL_law_668 ?_
  refine k_topi (y := 1) (by decide) ?_
  refine va_sld (xs := xs) hx hb hXs hbl hbA hS (k_in (by decide)) dL_law_669 ?_
  refine k_topi (y := (xs 1)) (congrArg xs (by decide)) ?_
  refine lv_aload_n hx hb dL_law_670 rfl (lv_at hl 0 rfl) ?_
  refine lv_iload hx hb dL_law_671 (lv_at hl 4 rfl) ?_
  refine lv_iconst (v := 2) hx hb dL_law_673 (by decide) ?_
  refine lv_iadd hx hb dL_law_674 ?_
  refine k_topi (y := 2) (by decide) ?_
  refine va_sld (xs := xs) hx hb hXs hbl hbA hS (k_in (by decide)) dL_law_675 ?_
  refine k_topi (y := (xs 2)) (congrArg xs (by decide)) ?_
  refine lv_if_eq (tgt := 683) hx hb dL_law_676 (by decide) (fun _ => ?_) (fun c9 => absurd e0 c9)
  refine lv_iconst (v := 0) hx hb dL_law_683 (by decide) ?_
  refine k_cVi (As := [.int (xs 1), .int 0]) (rest := [.int (-101)]) (wc := [(h1, .inr (12, f3)), (h5, .inl (cI, 2, .inl g0))]) (wr := [(h0, .inr (11, f0)), (h3, .inr (1, f1)), (h4, .inr (2, f2))]) (w1 := [(h1, .inr (12, (((((f3.set 0 (.int 0)).set 15 (.int 2)).set 13 (.int 0)).set 14 (.int 0)).set 14 (.int 1)))), (h5, .inl (cI, 2, .inl (upd (upd g0 0 (xs 1)) 1 0)))]) ⟨hx, hb, hml, hown, hts⟩ hN hX hAE hK hP hD hS hA [0, 1] [2, 3, 4] (ci := 12) rfl rfl rfl rfl (by decide +kernel) (by decide +kernel) (by decide +kernel) (c_X12_on_2 l E D cI cJ cB cZ h1 (xs 1) f3 h5 g0 e5 e6 e7 e8 e9 e10 e11 e4) (cwV 2 hts g9_L_law_X12_on_110 rfl rfl rfl (by decide +kernel) ⟨Nat.le_of_ble_eq_true rfl, Nat.le_of_ble_eq_true rfl⟩) rfl hl.1 (Nat.le_of_ble_eq_true rfl) dL_law_684 ⟨Nat.le_of_ble_eq_true rfl, Nat.le_of_ble_eq_true rfl⟩ (fun H locs hP hD hS => ?_)
  have hP : va_P D vwCl [(h0, .inr (11, f0)), (h3, .inr (1, f1)), (h4, .inr (2, f2)), (h1, .inr (12, (((((f3.set 0 (.int 0)).set 15 (.int 2)).set 13 (.int 0)).set 14 (.int 0)).set 14 (.int 1)))), (h5, .inl (cI, 2, .inl (upd (upd g0 0 (xs 1)) 1 0)))] H := hP
  have hD : va_D A [(h0, .inr (11, f0)), (h3, .inr (1, f1)), (h4, .inr (2, f2)), (h1, .inr (12, (((((f3.set 0 (.int 0)).set 15 (.int 2)).set 13 (.int 0)).set 14 (.int 0)).set 14 (.int 1)))), (h5, .inl (cI, 2, .inl (upd (upd g0 0 (xs 1)) 1 0)))] := hD
  refine lv_icmp_eq (tgt := 1765) hx hb dL_law_687 (by decide) (fun _ => ?_) (fun c9 => absurd (by decide) c9)
  refine W.widen (k := 601024) (n := 7293034) (Nat.le_of_ble_eq_true rfl) (Nat.le_of_ble_eq_true rfl) ?_
  exact T9 _ _ _ hS (lv_sub hl [0, 4] rfl)
set_option maxHeartbeats 400000000 in
set_option maxRecDepth 100000 in
theorem law_11_1 {p : Program} {l : Launch} {e : Env} {s : State} {m : MethodId} {below : List Frame} {meth : Method} {c : Code} {b : Nat} {xs : Nat → Int32} (E : kE) (D : va_G) (cI cJ cB cZ : ClassId) (A : Nat → Prop) (Q : State → Prop) (h0 : Nat) (h1 : Nat) (h2 : Nat) (f0 : List Value) (h3 : Nat) (f1 : List Value) (h4 : Nat) (f2 : List Value) (f3 : List Value) (h5 : Nat) (g0 : Nat → Int32) (e0 : ((xs 2) : Int32) = 0) (e1 : f0[1]? = some (.ref h3)) (e2 : f1[8]? = some (.int 0)) (e3 : f0[2]? = some (.ref h4)) (e4 : ¬ (((xs 1) : Int32) < 0)) (e5 : f2[11]? = some (.int 0)) (e6 : f3[10]? = some (.ref h5)) (e7 : f3[0]? = some (.int 0)) (e8 : f3[5]? = some (.int 0)) (e9 : f3[15]? = some (.int 0)) (e10 : f3[13]? = some (.int 0)) (e11 : f3[14]? = some (.int 0)) (e12 : f3[33]? = some (.int 0)) (X9 : kLaw p l s m c b xs E D cI cJ cB cZ A) (T9 : kTail p l e s m b below meth c A Q) {H : Heap} {locs : List Loc} {ls : Array Slot} (hP : va_P D vwCl [(h0, .inr (11, f0)), (h3, .inr (1, f1)), (h4, .inr (2, f2)), (h1, .inr (12, f3)), (h5, .inl (cI, 2, .inl g0))] H) (hD : va_D A [(h0, .inr (11, f0)), (h3, .inr (1, f1)), (h4, .inr (2, f2)), (h1, .inr (12, f3)), (h5, .inl (cI, 2, .inl g0))]) (hS : va_S A s.heap H locs) (hl : lv_has ls 8 [(0, .ref b), (1, .ref h0), (2, .ref h1), (3, .ref h2), (4, .int 0)]) : W p l e room_1 s m #[Value.ref b] below meth c H locs 218 1205840 Q (F0 m 639 ls []) := by
  obtain ⟨hl9, hx, hb, hml, hown, hts, hN, hX, hAE, hK, hA, hXs, hbl, hbA⟩ := X9
  refine lv_aload_n hx hb dL_law_639 rfl (lv_at hl 1 rfl) ?_
  refine lv_aload_n hx hb dL_law_640 rfl (lv_at hl 0 rfl) ?_
  refine lv_iload hx hb dL_law_641 (lv_at hl 4 rfl) ?_
  refine lv_iconst (v := 1) hx hb dL_law_643 (by decide) ?_
  refine lv_iadd hx hb dL_law_644 ?_
  refine k_topi (y := 1) (by decide) ?_
  refine va_sld (xs := xs) hx hb hXs hbl hbA hS (k_in (by decide)) dL_law_645 ?_
  refine k_topi (y := (xs 1)) (congrArg xs (by decide)) ?_
  refine lv_aload_n hx hb dL_law_646 rfl (lv_at hl 0 rfl) ?_
  refine lv_iload hx hb dL_law_647 (lv_at hl 4 rfl) ?_
  refine lv_iconst (v := 2) hx hb dL_law_649 (by decide) ?_
  refine lv_iadd hx hb dL_law_650 ?_
  refine k_topi (y := 2) (by decide) ?_
  refine va_sld (xs := xs) hx hb hXs hbl hbA hS (k_in (by decide)) dL_law_651 ?_
  refine k_topi (y := (xs 2)) (congrArg xs (by decide)) ?_
  refine lv_if_eq (tgt := 659) hx hb dL_law_652 (by decide) (fun _ => ?_) (fun c9 => absurd e0 c9)
  refine lv_iconst (v := 0) hx hb dL_law_659 (by decide) ?_
  refine k_cVi (As := [.int (xs 1), .int 0]) (rest := []) (wc := [(h0, .inr (11, f0)), (h3, .inr (1, f1)), (h4, .inr (2, f2))]) (wr := [(h1, .inr (12, f3)), (h5, .inl (cI, 2, .inl g0))]) (w1 := [(h0, .inr (11, f0)), (h3, .inr (1, f1)), (h4, .inr (2, f2))]) ⟨hx, hb, hml, hown, hts⟩ hN hX hAE hK hP hD hS hA [0, 1, 2] [3, 4] (ci := 11) rfl rfl rfl rfl (by decide +kernel) (by decide +kernel) (by decide +kernel) (c_X11_on_1 l E D cI cJ cB cZ h0 (xs 1) f0 h3 f1 h4 f2 e1 e2 e3 e4 e5) (cwV 2 hts g9_L_law_X11_on_106 rfl rfl rfl (by decide +kernel) ⟨Nat.le_of_ble_eq_true rfl, Nat.le_of_ble_eq_true rfl⟩) rfl hl.1 (Nat.le_of_ble_eq_true rfl) dL_law_660 ⟨Nat.le_of_ble_eq_true rfl, Nat.le_of_ble_eq_true rfl⟩ (fun H locs hP hD hS => ?_)
  have hP : va_P D vwCl [(h1, .inr (12, f3)), (h5, .inl (cI, 2, .inl g0)), (h0, .inr (11, f0)), (h3, .inr (1, f1)), (h4, .inr (2, f2))] H := hP
  have hD : va_D A [(h1, .inr (12, f3)), (h5, .inl (cI, 2, .inl g0)), (h0, .inr (11, f0)), (h3, .inr (1, f1)), (h4, .inr (2, f2))] := hD
  refine lv_aload_n hx hb dL_law_663 rfl (lv_at hl 2 rfl) ?_
  refine lv_aload_n hx hb dL_law_664 rfl (lv_at hl 0 rfl) ?_
  refine lv_iload hx hb dL_law_665 (lv_at hl 4 rfl) ?_
  refine lv_iconst (v := 1) hx hb dL_law_667 (by decide) ?_
  refine lv_iadd hx hb dL_law_668 ?_
  refine k_topi (y := 1) (by decide) ?_
  refine va_sld (xs := xs) hx hb hXs hbl hbA hS (k_in (by decide)) dL_law_669 ?_
  refine k_topi (y := (xs 1)) (congrArg xs (by decide)) ?_
  refine lv_aload_n hx hb dL_law_670 rfl (lv_at hl 0 rfl) ?_
  refine lv_iload hx hb dL_law_671 (lv_at hl 4 rfl) ?_
  refine lv_iconst (v := 2) hx hb dL_law_673 (by decide) ?_
  refine lv_iadd hx hb dL_law_674 ?_
  refine k_topi (y := 2) (by decide) ?_
  refine va_sld (xs := xs) hx hb hXs hbl hbA hS (k_in (by decide)) dL_law_675 ?_
  refine k_topi (y := (xs 2)) (congrArg xs (by decide)) ?_
  refine lv_if_eq (tgt := 683) hx hb dL_law_676 (by decide) (fun _ => ?_) (fun c9 => absurd e0 c9)
  refine lv_iconst (v := 0) hx hb dL_law_683 (by decide) ?_
  refine k_cVi (As := [.int (xs 1), .int 0]) (rest := [.int (-101)]) (wc := [(h1, .inr (12, f3)), (h5, .inl (cI, 2, .inl g0))]) (wr := [(h0, .inr (11, f0)), (h3, .inr (1, f1)), (h4, .inr (2, f2))]) (w1 := [(h1, .inr (12, (((((f3.set 0 (.int 0)).set 15 (.int 2)).set 13 (.int 0)).set 14 (.int 0)).set 14 (.int 1)))), (h5, .inl (cI, 2, .inl (upd (upd g0 0 (xs 1)) 1 0)))]) ⟨hx, hb, hml, hown, hts⟩ hN hX hAE hK hP hD hS hA [0, 1] [2, 3, 4] (ci := 12) rfl rfl rfl rfl (by decide +kernel) (by decide +kernel) (by decide +kernel) (c_X12_on_1 l E D cI cJ cB cZ h1 (xs 1) f3 h5 g0 e6 e7 e8 e9 e10 e11 e12 e4) (cwV 2 hts g9_L_law_X12_on_110 rfl rfl rfl (by decide +kernel) ⟨Nat.le_of_ble_eq_true rfl, Nat.le_of_ble_eq_true rfl⟩) rfl hl.1 (Nat.le_of_ble_eq_true rfl) dL_law_684 ⟨Nat.le_of_ble_eq_true rfl, Nat.le_of_ble_eq_true rfl⟩ (fun H locs hP hD hS => ?_)
  have hP : va_P D vwCl [(h0, .inr (11, f0)), (h3, .inr (1, f1)), (h4, .inr (2, f2)), (h1, .inr (12, (((((f3.set 0 (.int 0)).set 15 (.int 2)).set 13 (.int 0)).set 14 (.int 0)).set 14 (.int 1)))), (h5, .inl (cI, 2, .inl (upd (upd g0 0 (xs 1)) 1 0)))] H := hP
  have hD : va_D A [(h0, .inr (11, f0)), (h3, .inr (1, f1)), (h4, .inr (2, f2)), (h1, .inr (12, (((((f3.set 0 (.int 0)).set 15 (.int 2)).set 13 (.int 0)).set 14 (.int 0)).set 14 (.int 1)))), (h5, .inl (cI, 2, .inl (upd (upd g0 0 (xs 1)) 1 0)))] := hD
  refine lv_icmp_eq (tgt := 1765) hx hb dL_law_687 (by decide) (fun _ => ?_) (fun c9 => absurd (by decide) c9)
  refine W.widen (k := 601024) (n := 7293034) (Nat.le_of_ble_eq_true rfl) (Nat.le_of_ble_eq_true rfl) ?_
  exact T9 _ _ _ hS (lv_sub hl [0, 4] rfl)
set_option maxHeartbeats 400000000 in
set_option maxRecDepth 100000 in
theorem law_11_2 {p : Program} {l : Launch} {e : Env} {s : State} {m : MethodId} {below : List Frame} {meth : Method} {c : Code} {b : Nat} {xs : Nat → Int32} (E : kE) (D : va_G) (cI cJ cB cZ : ClassId) (A : Nat → Prop) (Q : State → Prop) (h0 : Nat) (h1 : Nat) (h2 : Nat) (f0 : List Value) (h3 : Nat) (f1 : List Value) (h4 : Nat) (f2 : List Value) (f3 : List Value) (h5 : Nat) (g0 : Nat → Int32) (e0 : ¬ (((xs 2) : Int32) = 0)) (e1 : f0[1]? = some (.ref h3)) (e2 : f1[8]? = some (.int 0)) (e3 : f0[2]? = some (.ref h4)) (e4 : ((xs 1) : Int32) < 0) (e5 : f3[10]? = some (.ref h5)) (e6 : f3[0]? = some (.int 0)) (e7 : f3[5]? = some (.int 0)) (e8 : f3[15]? = some (.int 0)) (e9 : f3[13]? = some (.int 0)) (e10 : f3[14]? = some (.int 0)) (e11 : f3[33]? = some (.int 0)) (X9 : kLaw p l s m c b xs E D cI cJ cB cZ A) (T9 : kTail p l e s m b below meth c A Q) {H : Heap} {locs : List Loc} {ls : Array Slot} (hP : va_P D vwCl [(h0, .inr (11, f0)), (h3, .inr (1, f1)), (h4, .inr (2, f2)), (h1, .inr (12, f3)), (h5, .inl (cI, 2, .inl g0))] H) (hD : va_D A [(h0, .inr (11, f0)), (h3, .inr (1, f1)), (h4, .inr (2, f2)), (h1, .inr (12, f3)), (h5, .inl (cI, 2, .inl g0))]) (hS : va_S A s.heap H locs) (hl : lv_has ls 8 [(0, .ref b), (1, .ref h0), (2, .ref h1), (3, .ref h2), (4, .int 0)]) : W p l e room_1 s m #[Value.ref b] below meth c H locs 218 1205840 Q (F0 m 639 ls []) := by
  obtain ⟨hl9, hx, hb, hml, hown, hts, hN, hX, hAE, hK, hA, hXs, hbl, hbA⟩ := X9
  refine lv_aload_n hx hb dL_law_639 rfl (lv_at hl 1 rfl) ?_
  refine lv_aload_n hx hb dL_law_640 rfl (lv_at hl 0 rfl) ?_
  refine lv_iload hx hb dL_law_641 (lv_at hl 4 rfl) ?_
  refine lv_iconst (v := 1) hx hb dL_law_643 (by decide) ?_
  refine lv_iadd hx hb dL_law_644 ?_
  refine k_topi (y := 1) (by decide) ?_
  refine va_sld (xs := xs) hx hb hXs hbl hbA hS (k_in (by decide)) dL_law_645 ?_
  refine k_topi (y := (xs 1)) (congrArg xs (by decide)) ?_
  refine lv_aload_n hx hb dL_law_646 rfl (lv_at hl 0 rfl) ?_
  refine lv_iload hx hb dL_law_647 (lv_at hl 4 rfl) ?_
  refine lv_iconst (v := 2) hx hb dL_law_649 (by decide) ?_
  refine lv_iadd hx hb dL_law_650 ?_
  refine k_topi (y := 2) (by decide) ?_
  refine va_sld (xs := xs) hx hb hXs hbl hbA hS (k_in (by decide)) dL_law_651 ?_
  refine k_topi (y := (xs 2)) (congrArg xs (by decide)) ?_
  refine lv_if_eq (tgt := 659) hx hb dL_law_652 (by decide) (fun c9 => absurd c9 e0) (fun _ => ?_)
  refine lv_iconst (v := 1) hx hb dL_law_655 (by decide) ?_
  refine lv_goto (tgt := 660) hx hb dL_law_656 (by decide) ?_
  refine k_cVi (As := [.int (xs 1), .int 1]) (rest := []) (wc := [(h0, .inr (11, f0)), (h3, .inr (1, f1)), (h4, .inr (2, f2))]) (wr := [(h1, .inr (12, f3)), (h5, .inl (cI, 2, .inl g0))]) (w1 := [(h0, .inr (11, f0)), (h3, .inr (1, f1)), (h4, .inr (2, f2))]) ⟨hx, hb, hml, hown, hts⟩ hN hX hAE hK hP hD hS hA [0, 1, 2] [3, 4] (ci := 11) rfl rfl rfl rfl (by decide +kernel) (by decide +kernel) (by decide +kernel) (c_X11_on_3 l E D cI cJ cB cZ h0 (xs 1) f0 h3 f1 h4 f2 e1 e2 e3 e4) (cwV 2 hts g9_L_law_X11_on_106 rfl rfl rfl (by decide +kernel) ⟨Nat.le_of_ble_eq_true rfl, Nat.le_of_ble_eq_true rfl⟩) rfl hl.1 (Nat.le_of_ble_eq_true rfl) dL_law_660 ⟨Nat.le_of_ble_eq_true rfl, Nat.le_of_ble_eq_true rfl⟩ (fun H locs hP hD hS => ?_)
  have hP : va_P D vwCl [(h1, .inr (12, f3)), (h5, .inl (cI, 2, .inl g0)), (h0, .inr (11, f0)), (h3, .inr (1, f1)), (h4, .inr (2, f2))] H := hP
  have hD : va_D A [(h1, .inr (12, f3)), (h5, .inl (cI, 2, .inl g0)), (h0, .inr (11, f0)), (h3, .inr (1, f1)), (h4, .inr (2, f2))] := hD
  refine lv_aload_n hx hb dL_law_663 rfl (lv_at hl 2 rfl) ?_
  refine lv_aload_n hx hb dL_law_664 rfl (lv_at hl 0 rfl) ?_
  refine lv_iload hx hb dL_law_665 (lv_at hl 4 rfl) ?_
  refine lv_iconst (v := 1) hx hb dL_law_667 (by decide) ?_
  refine lv_iadd hx hb dL_law_668 ?_
  refine k_topi (y := 1) (by decide) ?_
  refine va_sld (xs := xs) hx hb hXs hbl hbA hS (k_in (by decide)) dL_law_669 ?_
  refine k_topi (y := (xs 1)) (congrArg xs (by decide)) ?_
  refine lv_aload_n hx hb dL_law_670 rfl (lv_at hl 0 rfl) ?_
  refine lv_iload hx hb dL_law_671 (lv_at hl 4 rfl) ?_
  refine lv_iconst (v := 2) hx hb dL_law_673 (by decide) ?_
  refine lv_iadd hx hb dL_law_674 ?_
  refine k_topi (y := 2) (by decide) ?_
  refine va_sld (xs := xs) hx hb hXs hbl hbA hS (k_in (by decide)) dL_law_675 ?_
  refine k_topi (y := (xs 2)) (congrArg xs (by decide)) ?_
  refine lv_if_eq (tgt := 683) hx hb dL_law_676 (by decide) (fun c9 => absurd c9 e0) (fun _ => ?_)
  refine lv_iconst (v := 1) hx hb dL_law_679 (by decide) ?_
  refine lv_goto (tgt := 684) hx hb dL_law_680 (by decide) ?_
  refine k_cVi (As := [.int (xs 1), .int 1]) (rest := [.int (-101)]) (wc := [(h1, .inr (12, f3)), (h5, .inl (cI, 2, .inl g0))]) (wr := [(h0, .inr (11, f0)), (h3, .inr (1, f1)), (h4, .inr (2, f2))]) (w1 := [(h1, .inr (12, (((((f3.set 0 (.int 0)).set 15 (.int 2)).set 13 (.int 0)).set 14 (.int 0)).set 14 (.int 1)))), (h5, .inl (cI, 2, .inl (upd (upd g0 0 (xs 1)) 1 1)))]) ⟨hx, hb, hml, hown, hts⟩ hN hX hAE hK hP hD hS hA [0, 1] [2, 3, 4] (ci := 12) rfl rfl rfl rfl (by decide +kernel) (by decide +kernel) (by decide +kernel) (c_X12_on_3 l E D cI cJ cB cZ h1 (xs 1) f3 h5 g0 e5 e6 e7 e8 e9 e10 e11 e4) (cwV 2 hts g9_L_law_X12_on_110 rfl rfl rfl (by decide +kernel) ⟨Nat.le_of_ble_eq_true rfl, Nat.le_of_ble_eq_true rfl⟩) rfl hl.1 (Nat.le_of_ble_eq_true rfl) dL_law_684 ⟨Nat.le_of_ble_eq_true rfl, Nat.le_of_ble_eq_true rfl⟩ (fun H locs hP hD hS => ?_)
  have hP : va_P D vwCl [(h0, .inr (11, f0)), (h3, .inr (1, f1)), (h4, .inr (2, f2)), (h1, .inr (12, (((((f3.set 0 (.int 0)).set 15 (.int 2)).set 13 (.int 0)).set 14 (.int 0)).set 14 (.int 1)))), (h5, .inl (cI, 2, .inl (upd (upd g0 0 (xs 1)) 1 1)))] H := hP
  have hD : va_D A [(h0, .inr (11, f0)), (h3, .inr (1, f1)), (h4, .inr (2, f2)), (h1, .inr (12, (((((f3.set 0 (.int 0)).set 15 (.int 2)).set 13 (.int 0)).set 14 (.int 0)).set 14 (.int 1)))), (h5, .inl (cI, 2, .inl (upd (upd g0 0 (xs 1)) 1 1)))] := hD
  refine lv_icmp_eq (tgt := 1765) hx hb dL_law_687 (by decide) (fun _ => ?_) (fun c9 => absurd (by decide) c9)
  refine W.widen (k := 601024) (n := 7293034) (Nat.le_of_ble_eq_true rfl) (Nat.le_of_ble_eq_true rfl) ?_
  exact T9 _ _ _ hS (lv_sub hl [0, 4] rfl)
set_option maxHeartbeats 400000000 in
set_option maxRecDepth 100000 in
theorem law_11_3 {p : Program} {l : Launch} {e : Env} {s : State} {m : MethodId} {below : List Frame} {meth : Method} {c : Code} {b : Nat} {xs : Nat → Int32} (E : kE) (D : va_G) (cI cJ cB cZ : ClassId) (A : Nat → Prop) (Q : State → Prop) (h0 : Nat) (h1 : Nat) (h2 : Nat) (f0 : List Value) (h3 : Nat) (f1 : List Value) (h4 : Nat) (f2 : List Value) (f3 : List Value) (h5 : Nat) (g0 : Nat → Int32) (e0 : ¬ (((xs 2) : Int32) = 0)) (e1 : f0[1]? = some (.ref h3)) (e2 : f1[8]? = some (.int 0)) (e3 : f0[2]? = some (.ref h4)) (e4 : f2[11]? = some (.int 0)) (e5 : ¬ (((xs 1) : Int32) < 0)) (e6 : f3[10]? = some (.ref h5)) (e7 : f3[0]? = some (.int 0)) (e8 : f3[5]? = some (.int 0)) (e9 : f3[15]? = some (.int 0)) (e10 : f3[13]? = some (.int 0)) (e11 : f3[14]? = some (.int 0)) (e12 : f3[33]? = some (.int 0)) (X9 : kLaw p l s m c b xs E D cI cJ cB cZ A) (T9 : kTail p l e s m b below meth c A Q) {H : Heap} {locs : List Loc} {ls : Array Slot} (hP : va_P D vwCl [(h0, .inr (11, f0)), (h3, .inr (1, f1)), (h4, .inr (2, f2)), (h1, .inr (12, f3)), (h5, .inl (cI, 2, .inl g0))] H) (hD : va_D A [(h0, .inr (11, f0)), (h3, .inr (1, f1)), (h4, .inr (2, f2)), (h1, .inr (12, f3)), (h5, .inl (cI, 2, .inl g0))]) (hS : va_S A s.heap H locs) (hl : lv_has ls 8 [(0, .ref b), (1, .ref h0), (2, .ref h1), (3, .ref h2), (4, .int 0)]) : W p l e room_1 s m #[Value.ref b] below meth c H locs 218 1205840 Q (F0 m 639 ls []) := by
  obtain ⟨hl9, hx, hb, hml, hown, hts, hN, hX, hAE, hK, hA, hXs, hbl, hbA⟩ := X9
  refine lv_aload_n hx hb dL_law_639 rfl (lv_at hl 1 rfl) ?_
  refine lv_aload_n hx hb dL_law_640 rfl (lv_at hl 0 rfl) ?_
  refine lv_iload hx hb dL_law_641 (lv_at hl 4 rfl) ?_
  refine lv_iconst (v := 1) hx hb dL_law_643 (by decide) ?_
  refine lv_iadd hx hb dL_law_644 ?_
  refine k_topi (y := 1) (by decide) ?_
  refine va_sld (xs := xs) hx hb hXs hbl hbA hS (k_in (by decide)) dL_law_645 ?_
  refine k_topi (y := (xs 1)) (congrArg xs (by decide)) ?_
  refine lv_aload_n hx hb dL_law_646 rfl (lv_at hl 0 rfl) ?_
  refine lv_iload hx hb dL_law_647 (lv_at hl 4 rfl) ?_
  refine lv_iconst (v := 2) hx hb dL_law_649 (by decide) ?_
  refine lv_iadd hx hb dL_law_650 ?_
  refine k_topi (y := 2) (by decide) ?_
  refine va_sld (xs := xs) hx hb hXs hbl hbA hS (k_in (by decide)) dL_law_651 ?_
  refine k_topi (y := (xs 2)) (congrArg xs (by decide)) ?_
  refine lv_if_eq (tgt := 659) hx hb dL_law_652 (by decide) (fun c9 => absurd c9 e0) (fun _ => ?_)
  refine lv_iconst (v := 1) hx hb dL_law_655 (by decide) ?_
  refine lv_goto (tgt := 660) hx hb dL_law_656 (by decide) ?_
  refine k_cVi (As := [.int (xs 1), .int 1]) (rest := []) (wc := [(h0, .inr (11, f0)), (h3, .inr (1, f1)), (h4, .inr (2, f2))]) (wr := [(h1, .inr (12, f3)), (h5, .inl (cI, 2, .inl g0))]) (w1 := [(h0, .inr (11, f0)), (h3, .inr (1, f1)), (h4, .inr (2, f2))]) ⟨hx, hb, hml, hown, hts⟩ hN hX hAE hK hP hD hS hA [0, 1, 2] [3, 4] (ci := 11) rfl rfl rfl rfl (by decide +kernel) (by decide +kernel) (by decide +kernel) (c_X11_on_0 l E D cI cJ cB cZ h0 (xs 1) f0 h3 f1 h4 f2 e1 e2 e3 e4 e5) (cwV 2 hts g9_L_law_X11_on_106 rfl rfl rfl (by decide +kernel) ⟨Nat.le_of_ble_eq_true rfl, Nat.le_of_ble_eq_true rfl⟩) rfl hl.1 (Nat.le_of_ble_eq_true rfl) dL_law_660 ⟨Nat.le_of_ble_eq_true rfl, Nat.le_of_ble_eq_true rfl⟩ (fun H locs hP hD hS => ?_)
  have hP : va_P D vwCl [(h1, .inr (12, f3)), (h5, .inl (cI, 2, .inl g0)), (h0, .inr (11, f0)), (h3, .inr (1, f1)), (h4, .inr (2, f2))] H := hP
  have hD : va_D A [(h1, .inr (12, f3)), (h5, .inl (cI, 2, .inl g0)), (h0, .inr (11, f0)), (h3, .inr (1, f1)), (h4, .inr (2, f2))] := hD
  refine lv_aload_n hx hb dL_law_663 rfl (lv_at hl 2 rfl) ?_
  refine lv_aload_n hx hb dL_law_664 rfl (lv_at hl 0 rfl) ?_
  refine lv_iload hx hb dL_law_665 (lv_at hl 4 rfl) ?_
  refine lv_iconst (v := 1) hx hb dL_law_667 (by decide) ?_
  refine lv_iadd hx hb dL_law_668 ?_
  refine k_topi (y := 1) (by decide) ?_
  refine va_sld (xs := xs) hx hb hXs hbl hbA hS (k_in (by decide)) dL_law_669 ?_
  refine k_topi (y := (xs 1)) (congrArg xs (by decide)) ?_
  refine lv_aload_n hx hb dL_law_670 rfl (lv_at hl 0 rfl) ?_
  refine lv_iload hx hb dL_law_671 (lv_at hl 4 rfl) ?_
  refine lv_iconst (v := 2) hx hb dL_law_673 (by decide) ?_
  refine lv_iadd hx hb dL_law_674 ?_
  refine k_topi (y := 2) (by decide) ?_
  refine va_sld (xs := xs) hx hb hXs hbl hbA hS (k_in (by decide)) dL_law_675 ?_
  refine k_topi (y := (xs 2)) (congrArg xs (by decide)) ?_
  refine lv_if_eq (tgt := 683) hx hb dL_law_676 (by decide) (fun c9 => absurd c9 e0) (fun _ => ?_)
  refine lv_iconst (v := 1) hx hb dL_law_679 (by decide) ?_
  refine lv_goto (tgt := 684) hx hb dL_law_680 (by decide) ?_
  refine k_cVi (As := [.int (xs 1), .int 1]) (rest := [.int (-101)]) (wc := [(h1, .inr (12, f3)), (h5, .inl (cI, 2, .inl g0))]) (wr := [(h0, .inr (11, f0)), (h3, .inr (1, f1)), (h4, .inr (2, f2))]) (w1 := [(h1, .inr (12, (((((f3.set 0 (.int 0)).set 15 (.int 2)).set 13 (.int 0)).set 14 (.int 0)).set 14 (.int 1)))), (h5, .inl (cI, 2, .inl (upd (upd g0 0 (xs 1)) 1 1)))]) ⟨hx, hb, hml, hown, hts⟩ hN hX hAE hK hP hD hS hA [0, 1] [2, 3, 4] (ci := 12) rfl rfl rfl rfl (by decide +kernel) (by decide +kernel) (by decide +kernel) (c_X12_on_0 l E D cI cJ cB cZ h1 (xs 1) f3 h5 g0 e6 e7 e8 e9 e10 e11 e12 e5) (cwV 2 hts g9_L_law_X12_on_110 rfl rfl rfl (by decide +kernel) ⟨Nat.le_of_ble_eq_true rfl, Nat.le_of_ble_eq_true rfl⟩) rfl hl.1 (Nat.le_of_ble_eq_true rfl) dL_law_684 ⟨Nat.le_of_ble_eq_true rfl, Nat.le_of_ble_eq_true rfl⟩ (fun H locs hP hD hS => ?_)
  have hP : va_P D vwCl [(h0, .inr (11, f0)), (h3, .inr (1, f1)), (h4, .inr (2, f2)), (h1, .inr (12, (((((f3.set 0 (.int 0)).set 15 (.int 2)).set 13 (.int 0)).set 14 (.int 0)).set 14 (.int 1)))), (h5, .inl (cI, 2, .inl (upd (upd g0 0 (xs 1)) 1 1)))] H := hP
  have hD : va_D A [(h0, .inr (11, f0)), (h3, .inr (1, f1)), (h4, .inr (2, f2)), (h1, .inr (12, (((((f3.set 0 (.int 0)).set 15 (.int 2)).set 13 (.int 0)).set 14 (.int 0)).set 14 (.int 1)))), (h5, .inl (cI, 2, .inl (upd (upd g0 0 (xs 1)) 1 1)))] := hD
  refine lv_icmp_eq (tgt := 1765) hx hb dL_law_687 (by decide) (fun _ => ?_) (fun c9 => absurd (by decide) c9)
  refine W.widen (k := 601024) (n := 7293034) (Nat.le_of_ble_eq_true rfl) (Nat.le_of_ble_eq_true rfl) ?_
  exact T9 _ _ _ hS (lv_sub hl [0, 4] rfl)
set_option maxHeartbeats 400000000 in
set_option maxRecDepth 100000 in
theorem law_12_0 {p : Program} {l : Launch} {e : Env} {s : State} {m : MethodId} {below : List Frame} {meth : Method} {c : Code} {b : Nat} {xs : Nat → Int32} (E : kE) (D : va_G) (cI cJ cB cZ : ClassId) (A : Nat → Prop) (Q : State → Prop) (h0 : Nat) (h1 : Nat) (h2 : Nat) (f0 : List Value) (h3 : Nat) (f1 : List Value) (h4 : Nat) (f2 : List Value) (h5 : Nat) (h6 : Nat) (g0 : Nat → Int32) (g1 : Nat → Int32) (f3 : List Value) (h7 : Nat) (h8 : Nat) (h9 : Nat) (g2 : Nat → Int32) (g3 : Nat → Int32) (g4 : Nat → Int32) (e0 : f0[1]? = some (.ref h3)) (e1 : f1[8]? = some (.int 0)) (e2 : f0[2]? = some (.ref h4)) (e3 : f2[14]? = some (.int 0)) (e4 : f1[4]? = some (.int 0)) (e5 : f1[5]? = some (.int 0)) (e6 : f2[8]? = some (.ref h5)) (e7 : f2[10]? = some (.int 0)) (e8 : f2[11]? = some (.int 0)) (e9 : f2[12]? = some (.int 0)) (e10 : f2[13]? = some (.int 0)) (e11 : f1[3]? = some (.ref h6)) (e12 : f0[14]? = some (.int 0)) (e13 : f3[0]? = some (.int 0)) (e14 : f3[5]? = some (.int 0)) (e15 : f3[15]? = some (.int 0)) (e16 : f3[13]? = some (.int 0)) (e17 : f3[14]? = some (.int 0)) (e18 : f3[105]? = some (.int 0)) (e19 : f3[9]? = some (.int 0)) (e20 : f3[4]? = some (.int 0)) (e21 : f3[106]? = some (.ref h7)) (e22 : f3[32]? = some (.int 0)) (e23 : f3[107]? = some (.ref h8)) (e24 : f3[33]? = some (.int 0)) (e25 : f3[16]? = some (.int 0)) (e26 : f3[8]? = some (.ref h9)) (X9 : kLaw p l s m c b xs E D cI cJ cB cZ A) (T9 : kTail p l e s m b below meth c A Q) {H : Heap} {locs : List Loc} {ls : Array Slot} (hP : va_P D vwCl [(h0, .inr (11, f0)), (h3, .inr (1, f1)), (h4, .inr (2, f2)), (h5, .inl (cI, 32, .inl g0)), (h6, .inl (cB, 24800, .inl g1)), (h1, .inr (12, f3)), (h7, .inl (cI, 8, .inl g2)), (h8, .inl (cI, 8, .inl g3)), (h9, .inl (cB, 24800, .inl g4))] H) (hD : va_D A [(h0, .inr (11, f0)), (h3, .inr (1, f1)), (h4, .inr (2, f2)), (h5, .inl (cI, 32, .inl g0)), (h6, .inl (cB, 24800, .inl g1)), (h1, .inr (12, f3)), (h7, .inl (cI, 8, .inl g2)), (h8, .inl (cI, 8, .inl g3)), (h9, .inl (cB, 24800, .inl g4))]) (hS : va_S A s.heap H locs) (hl : lv_has ls 8 [(0, .ref b), (1, .ref h0), (2, .ref h1), (3, .ref h2), (4, .int 0)]) : W p l e room_1 s m #[Value.ref b] below meth c H locs 218 1205840 Q (F0 m 692 ls []) := by
  obtain ⟨hl9, hx, hb, hml, hown, hts, hN, hX, hAE, hK, hA, hXs, hbl, hbA⟩ := X9
  refine lv_aload_n hx hb dL_law_692 rfl (lv_at hl 1 rfl) ?_
  refine k_cVi (As := []) (rest := []) (wc := [(h0, .inr (11, f0)), (h3, .inr (1, f1)), (h4, .inr (2, f2)), (h5, .inl (cI, 32, .inl g0)), (h6, .inl (cB, 24800, .inl g1))]) (wr := [(h1, .inr (12, f3)), (h7, .inl (cI, 8, .inl g2)), (h8, .inl (cI, 8, .inl g3)), (h9, .inl (cB, 24800, .inl g4))]) (w1 := [(h0, .inr (11, (f0.set 14 (.int 1)))), (h3, .inr (1, (f1.set 4 (.int 1)))), (h4, .inr (2, (f2.set 14 (.int 1)))), (h5, .inl (cI, 32, .inl (upd (upd (upd (upd g0 0 0) 1 0) 2 0) 3 0))), (h6, .inl (cB, 24800, .inl (upd g1 0 3)))]) ⟨hx, hb, hml, hown, hts⟩ hN hX hAE hK hP hD hS hA [0, 1, 2, 3, 4] [5, 6, 7, 8] (ci := 11) rfl rfl rfl rfl (by decide +kernel) (by decide +kernel) (by decide +kernel) (c_X11_push_0 l E D cI cJ cB cZ h0 f0 h3 f1 h4 f2 h5 g0 h6 g1 e0 e1 e2 e3 e4 e5 e6 e7 e8 e9 e10 e11 e12) (cwV 0 hts g9_L_law_X11_push_111 rfl rfl rfl (by decide +kernel) ⟨Nat.le_of_ble_eq_true rfl, Nat.le_of_ble_eq_true rfl⟩) rfl hl.1 (Nat.le_of_ble_eq_true rfl) dL_law_693 ⟨Nat.le_of_ble_eq_true rfl, Nat.le_of_ble_eq_true rfl⟩ (fun H locs hP hD hS => ?_)
  have hP : va_P D vwCl [(h1, .inr (12, f3)), (h7, .inl (cI, 8, .inl g2)), (h8, .inl (cI, 8, .inl g3)), (h9, .inl (cB, 24800, .inl g4)), (h0, .inr (11, (f0.set 14 (.int 1)))), (h3, .inr (1, (f1.set 4 (.int 1)))), (h4, .inr (2, (f2.set 14 (.int 1)))), (h5, .inl (cI, 32, .inl (upd (upd (upd (upd g0 0 0) 1 0) 2 0) 3 0))), (h6, .inl (cB, 24800, .inl (upd g1 0 3)))] H := hP
  have hD : va_D A [(h1, .inr (12, f3)), (h7, .inl (cI, 8, .inl g2)), (h8, .inl (cI, 8, .inl g3)), (h9, .inl (cB, 24800, .inl g4)), (h0, .inr (11, (f0.set 14 (.int 1)))), (h3, .inr (1, (f1.set 4 (.int 1)))), (h4, .inr (2, (f2.set 14 (.int 1)))), (h5, .inl (cI, 32, .inl (upd (upd (upd (upd g0 0 0) 1 0) 2 0) 3 0))), (h6, .inl (cB, 24800, .inl (upd g1 0 3)))] := hD
  refine lv_aload_n hx hb dL_law_696 rfl (lv_at hl 2 rfl) ?_
  refine k_cVi (As := []) (rest := [.int 1]) (wc := [(h1, .inr (12, f3)), (h7, .inl (cI, 8, .inl g2)), (h8, .inl (cI, 8, .inl g3)), (h9, .inl (cB, 24800, .inl g4))]) (wr := [(h0, .inr (11, (f0.set 14 (.int 1)))), (h3, .inr (1, (f1.set 4 (.int 1)))), (h4, .inr (2, (f2.set 14 (.int 1)))), (h5, .inl (cI, 32, .inl (upd (upd (upd (upd g0 0 0) 1 0) 2 0) 3 0))), (h6, .inl (cB, 24800, .inl (upd g1 0 3)))]) (w1 := [(h1, .inr (12, (((((((f3.set 0 (.int 0)).set 15 (.int 3)).set 13 (.int 0)).set 14 (.int 0)).set 105 (.int 1)).set 16 (.int 1)).set 9 (.int 1)))), (h7, .inl (cI, 8, .inl (upd g2 0 0))), (h8, .inl (cI, 8, .inl (upd g3 0 0))), (h9, .inl (cB, 24800, .inl (upd g4 0 3)))]) ⟨hx, hb, hml, hown, hts⟩ hN hX hAE hK hP hD hS hA [0, 1, 2, 3] [4, 5, 6, 7, 8] (ci := 12) rfl rfl rfl rfl (by decide +kernel) (by decide +kernel) (by decide +kernel) (c_X12_push_0 l E D cI cJ cB cZ h1 f3 h7 h8 h9 g2 g3 g4 e13 e14 e15 e16 e17 e18 e19 e20 e21 e22 e23 e24 e25 e26) (cwV 0 hts g9_L_law_X12_push_114 rfl rfl rfl (by decide +kernel) ⟨Nat.le_of_ble_eq_true rfl, Nat.le_of_ble_eq_true rfl⟩) rfl hl.1 (Nat.le_of_ble_eq_true rfl) dL_law_697 ⟨Nat.le_of_ble_eq_true rfl, Nat.le_of_ble_eq_true rfl⟩ (fun H locs hP hD hS => ?_)
  have hP : va_P D vwCl [(h0, .inr (11, (f0.set 14 (.int 1)))), (h3, .inr (1, (f1.set 4 (.int 1)))), (h4, .inr (2, (f2.set 14 (.int 1)))), (h5, .inl (cI, 32, .inl (upd (upd (upd (upd g0 0 0) 1 0) 2 0) 3 0))), (h6, .inl (cB, 24800, .inl (upd g1 0 3))), (h1, .inr (12, (((((((f3.set 0 (.int 0)).set 15 (.int 3)).set 13 (.int 0)).set 14 (.int 0)).set 105 (.int 1)).set 16 (.int 1)).set 9 (.int 1)))), (h7, .inl (cI, 8, .inl (upd g2 0 0))), (h8, .inl (cI, 8, .inl (upd g3 0 0))), (h9, .inl (cB, 24800, .inl (upd g4 0 3)))] H := hP
  have hD : va_D A [(h0, .inr (11, (f0.set 14 (.int 1)))), (h3, .inr (1, (f1.set 4 (.int 1)))), (h4, .inr (2, (f2.set 14 (.int 1)))), (h5, .inl (cI, 32, .inl (upd (upd (upd (upd g0 0 0) 1 0) 2 0) 3 0))), (h6, .inl (cB, 24800, .inl (upd g1 0 3))), (h1, .inr (12, (((((((f3.set 0 (.int 0)).set 15 (.int 3)).set 13 (.int 0)).set 14 (.int 0)).set 105 (.int 1)).set 16 (.int 1)).set 9 (.int 1)))), (h7, .inl (cI, 8, .inl (upd g2 0 0))), (h8, .inl (cI, 8, .inl (upd g3 0 0))), (h9, .inl (cB, 24800, .inl (upd g4 0 3)))] := hD
  refine lv_icmp_eq (tgt := 1765) hx hb dL_law_700 (by decide) (fun _ => ?_) (fun c9 => absurd (by decide) c9)
  refine W.widen (k := 601024) (n := 7293034) (Nat.le_of_ble_eq_true rfl) (Nat.le_of_ble_eq_true rfl) ?_
  exact T9 _ _ _ hS (lv_sub hl [0, 4] rfl)
set_option maxHeartbeats 400000000 in
set_option maxRecDepth 100000 in
theorem law_13_0 {p : Program} {l : Launch} {e : Env} {s : State} {m : MethodId} {below : List Frame} {meth : Method} {c : Code} {b : Nat} {xs : Nat → Int32} (E : kE) (D : va_G) (cI cJ cB cZ : ClassId) (A : Nat → Prop) (Q : State → Prop) (h0 : Nat) (h1 : Nat) (h2 : Nat) (f0 : List Value) (h3 : Nat) (f1 : List Value) (h4 : Nat) (f2 : List Value) (f3 : List Value) (e0 : f0[1]? = some (.ref h3)) (e1 : f1[8]? = some (.int 0)) (e2 : f0[2]? = some (.ref h4)) (e3 : f2[14]? = some (.int 0)) (e4 : f3[0]? = some (.int 0)) (e5 : f3[5]? = some (.int 0)) (e6 : f3[15]? = some (.int 0)) (e7 : f3[13]? = some (.int 0)) (e8 : f3[14]? = some (.int 0)) (e9 : f3[105]? = some (.int 0)) (X9 : kLaw p l s m c b xs E D cI cJ cB cZ A) (T9 : kTail p l e s m b below meth c A Q) {H : Heap} {locs : List Loc} {ls : Array Slot} (hP : va_P D vwCl [(h0, .inr (11, f0)), (h3, .inr (1, f1)), (h4, .inr (2, f2)), (h1, .inr (12, f3))] H) (hD : va_D A [(h0, .inr (11, f0)), (h3, .inr (1, f1)), (h4, .inr (2, f2)), (h1, .inr (12, f3))]) (hS : va_S A s.heap H locs) (hl : lv_has ls 8 [(0, .ref b), (1, .ref h0), (2, .ref h1), (3, .ref h2), (4, .int 0)]) : W p l e room_1 s m #[Value.ref b] below meth c H locs 218 1205840 Q (F0 m 705 ls []) := by
  obtain ⟨hl9, hx, hb, hml, hown, hts, hN, hX, hAE, hK, hA, hXs, hbl, hbA⟩ := X9
  refine lv_aload_n hx hb dL_law_705 rfl (lv_at hl 1 rfl) ?_
  refine k_cVi (As := []) (rest := []) (wc := [(h0, .inr (11, f0)), (h3, .inr (1, f1)), (h4, .inr (2, f2))]) (wr := [(h1, .inr (12, f3))]) (w1 := [(h0, .inr (11, f0)), (h3, .inr (1, f1)), (h4, .inr (2, f2))]) ⟨hx, hb, hml, hown, hts⟩ hN hX hAE hK hP hD hS hA [0, 1, 2] [3] (ci := 11) rfl rfl rfl rfl (by decide +kernel) (by decide +kernel) (by decide +kernel) (c_X11_pop_0 l E D cI cJ cB cZ h0 f0 h3 f1 h4 f2 e0 e1 e2 e3) (cwV 0 hts g9_L_law_X11_pop_115 rfl rfl rfl (by decide +kernel) ⟨Nat.le_of_ble_eq_true rfl, Nat.le_of_ble_eq_true rfl⟩) rfl hl.1 (Nat.le_of_ble_eq_true rfl) dL_law_706 ⟨Nat.le_of_ble_eq_true rfl, Nat.le_of_ble_eq_true rfl⟩ (fun H locs hP hD hS => ?_)
  have hP : va_P D vwCl [(h1, .inr (12, f3)), (h0, .inr (11, f0)), (h3, .inr (1, f1)), (h4, .inr (2, f2))] H := hP
  have hD : va_D A [(h1, .inr (12, f3)), (h0, .inr (11, f0)), (h3, .inr (1, f1)), (h4, .inr (2, f2))] := hD
  refine lv_aload_n hx hb dL_law_709 rfl (lv_at hl 2 rfl) ?_
  refine k_cVi (As := []) (rest := [.int (-103)]) (wc := [(h1, .inr (12, f3))]) (wr := [(h0, .inr (11, f0)), (h3, .inr (1, f1)), (h4, .inr (2, f2))]) (w1 := [(h1, .inr (12, (((((f3.set 0 (.int 0)).set 15 (.int 4)).set 13 (.int 0)).set 14 (.int 0)).set 14 (.int 1))))]) ⟨hx, hb, hml, hown, hts⟩ hN hX hAE hK hP hD hS hA [0] [1, 2, 3] (ci := 12) rfl rfl rfl rfl (by decide +kernel) (by decide +kernel) (by decide +kernel) (c_X12_pop_0 l E D cI cJ cB cZ h1 f3 e4 e5 e6 e7 e8 e9) (cwV 0 hts g9_L_law_X12_pop_118 rfl rfl rfl (by decide +kernel) ⟨Nat.le_of_ble_eq_true rfl, Nat.le_of_ble_eq_true rfl⟩) rfl hl.1 (Nat.le_of_ble_eq_true rfl) dL_law_710 ⟨Nat.le_of_ble_eq_true rfl, Nat.le_of_ble_eq_true rfl⟩ (fun H locs hP hD hS => ?_)
  have hP : va_P D vwCl [(h0, .inr (11, f0)), (h3, .inr (1, f1)), (h4, .inr (2, f2)), (h1, .inr (12, (((((f3.set 0 (.int 0)).set 15 (.int 4)).set 13 (.int 0)).set 14 (.int 0)).set 14 (.int 1))))] H := hP
  have hD : va_D A [(h0, .inr (11, f0)), (h3, .inr (1, f1)), (h4, .inr (2, f2)), (h1, .inr (12, (((((f3.set 0 (.int 0)).set 15 (.int 4)).set 13 (.int 0)).set 14 (.int 0)).set 14 (.int 1))))] := hD
  refine lv_icmp_eq (tgt := 1765) hx hb dL_law_713 (by decide) (fun _ => ?_) (fun c9 => absurd (by decide) c9)
  refine W.widen (k := 601024) (n := 7293034) (Nat.le_of_ble_eq_true rfl) (Nat.le_of_ble_eq_true rfl) ?_
  exact T9 _ _ _ hS (lv_sub hl [0, 4] rfl)
set_option maxHeartbeats 400000000 in
set_option maxRecDepth 100000 in
theorem law_14_0 {p : Program} {l : Launch} {e : Env} {s : State} {m : MethodId} {below : List Frame} {meth : Method} {c : Code} {b : Nat} {xs : Nat → Int32} (E : kE) (D : va_G) (cI cJ cB cZ : ClassId) (A : Nat → Prop) (Q : State → Prop) (h0 : Nat) (h1 : Nat) (h2 : Nat) (f0 : List Value) (h3 : Nat) (f1 : List Value) (h4 : Nat) (h5 : Nat) (f2 : List Value) (h6 : Nat) (f3 : List Value) (h7 : Nat) (h8 : Nat) (h9 : Nat) (h10 : Nat) (f4 : List Value) (g0 : Nat → Int32) (g1 : Nat → Int32) (f5 : List Value) (h11 : Nat) (h12 : Nat) (h13 : Nat) (h14 : Nat) (g2 : Nat → Int32) (g3 : Nat → Int32) (g4 : Nat → Int32) (g5 : Nat → Int32) (e0 : f0[1]? = some (.ref h3)) (e1 : f1[8]? = some (.int 0)) (e2 : f0[5]? = some (.ref h4)) (e3 : f0[0]? = some (.ref h5)) (e4 : f0[12]? = some (.int 0)) (e5 : f2[0]? = some (.ref h6)) (e6 : f3[6]? = some (.ref h7)) (e7 : f3[7]? = some (.int 0)) (e8 : f3[8]? = some (.int 0)) (e9 : f3[5]? = some (.int 0)) (e10 : f3[1]? = some (.ref h8)) (e11 : f3[2]? = some (.ref h9)) (e12 : f2[3]? = some (.int 0)) (e13 : f2[4]? = some (.int 0)) (e14 : f2[5]? = some (.int 0)) (e15 : f2[6]? = some (.int 0)) (e16 : f2[7]? = some (.int 0)) (e17 : f2[8]? = some (.int 0)) (e18 : f2[1]? = some (.ref h10)) (e19 : f4[11]? = some (.int 0)) (e20 : f0[13]? = some (.int 0)) (e21 : f5[0]? = some (.int 0)) (e22 : f5[5]? = some (.int 0)) (e23 : f5[2]? = some (.int 0)) (e24 : f5[12]? = some (.int 0)) (e25 : f5[32]? = some (.int 0)) (e26 : f5[36]? = some (.int 0)) (e27 : f5[33]? = some (.int 0)) (e28 : f5[37]? = some (.int 0)) (e29 : f5[27]? = some (.int 0)) (e30 : f5[31]? = some (.int 0)) (e31 : f5[28]? = some (.int 0)) (e32 : f5[23]? = some (.ref h11)) (e33 : f5[24]? = some (.ref h12)) (e34 : f5[25]? = some (.ref h13)) (e35 : f5[26]? = some (.ref h14)) (e36 : f5[29]? = some (.int 0)) (e37 : f5[30]? = some (.int 0)) (e38 : f5[13]? = some (.int 0)) (e39 : f5[109]? = some (.int 0)) (X9 : kLaw p l s m c b xs E D cI cJ cB cZ A) (T9 : kTail p l e s m b below meth c A Q) {H : Heap} {locs : List Loc} {ls : Array Slot} (hP : va_P D vwCl [(h0, .inr (11, f0)), (h3, .inr (1, f1)), (h4, .inr (8, f2)), (h6, .inr (3, f3)), (h10, .inr (2, f4)), (h8, .inl (cI, 2001, .inl g0)), (h9, .inl (cI, 2001, .inl g1)), (h1, .inr (12, f5)), (h11, .inl (cI, 2001, .inl g2)), (h12, .inl (cI, 2001, .inl g3)), (h13, .inl (cI, 2001, .inl g4)), (h14, .inl (cI, 2001, .inl g5))] H) (hD : va_D A [(h0, .inr (11, f0)), (h3, .inr (1, f1)), (h4, .inr (8, f2)), (h6, .inr (3, f3)), (h10, .inr (2, f4)), (h8, .inl (cI, 2001, .inl g0)), (h9, .inl (cI, 2001, .inl g1)), (h1, .inr (12, f5)), (h11, .inl (cI, 2001, .inl g2)), (h12, .inl (cI, 2001, .inl g3)), (h13, .inl (cI, 2001, .inl g4)), (h14, .inl (cI, 2001, .inl g5))]) (hS : va_S A s.heap H locs) (hl : lv_has ls 8 [(0, .ref b), (1, .ref h0), (2, .ref h1), (3, .ref h2), (4, .int 0)]) : W p l e room_1 s m #[Value.ref b] below meth c H locs 218 1205840 Q (F0 m 718 ls []) := by
  obtain ⟨hl9, hx, hb, hml, hown, hts, hN, hX, hAE, hK, hA, hXs, hbl, hbA⟩ := X9
  refine lv_aload_n hx hb dL_law_718 rfl (lv_at hl 1 rfl) ?_
  refine k_cVi (As := []) (rest := []) (wc := [(h0, .inr (11, f0)), (h3, .inr (1, f1)), (h4, .inr (8, f2)), (h6, .inr (3, f3)), (h10, .inr (2, f4)), (h8, .inl (cI, 2001, .inl g0)), (h9, .inl (cI, 2001, .inl g1))]) (wr := [(h1, .inr (12, f5)), (h11, .inl (cI, 2001, .inl g2)), (h12, .inl (cI, 2001, .inl g3)), (h13, .inl (cI, 2001, .inl g4)), (h14, .inl (cI, 2001, .inl g5))]) (w1 := [(h0, .inr (11, ((f0.set 12 (.int 0)).set 13 (.int 2)))), (h3, .inr (1, f1)), (h4, .inr (8, (((((((((((f2.set 3 (.int 0)).set 4 (.int 0)).set 5 (.int 0)).set 6 (.int (-1))).set 6 (.int 0)).set 7 (.int 0)).set 8 (.int 0)).set 3 (.int 2)).set 4 (.int 0)).set 7 (.int 44)).set 7 (.int 44)))), (h6, .inr (3, ((((f3.set 6 (.ref h5)).set 7 (.int 0)).set 8 (.int 0)).set 5 (.int 0)))), (h10, .inr (2, f4)), (h8, .inl (cI, 2001, .inl (upd g0 0 0))), (h9, .inl (cI, 2001, .inl (upd g1 0 0)))]) ⟨hx, hb, hml, hown, hts⟩ hN hX hAE hK hP hD hS hA [0, 1, 2, 3, 4, 5, 6] [7, 8, 9, 10, 11] (ci := 11) rfl rfl rfl rfl (by decide +kernel) (by decide +kernel) (by decide +kernel) (c_X11_find_0 l E D cI cJ cB cZ h0 f0 h3 f1 h4 h5 f2 h6 f3 h7 h8 h9 h10 f4 g0 g1 e0 e1 e2 e3 e4 e5 e6 e7 e8 e9 e10 e11 e12 e13 e14 e15 e16 e17 e18 e19 e20) (cwV 0 hts g9_L_law_X11_find_119 rfl rfl rfl (by decide +kernel) ⟨Nat.le_of_ble_eq_true rfl, Nat.le_of_ble_eq_true rfl⟩) rfl hl.1 (Nat.le_of_ble_eq_true rfl) dL_law_719 ⟨Nat.le_of_ble_eq_true rfl, Nat.le_of_ble_eq_true rfl⟩ (fun H locs hP hD hS => ?_)
  have hP : va_P D vwCl [(h1, .inr (12, f5)), (h11, .inl (cI, 2001, .inl g2)), (h12, .inl (cI, 2001, .inl g3)), (h13, .inl (cI, 2001, .inl g4)), (h14, .inl (cI, 2001, .inl g5)), (h0, .inr (11, ((f0.set 12 (.int 0)).set 13 (.int 2)))), (h3, .inr (1, f1)), (h4, .inr (8, (((((((((((f2.set 3 (.int 0)).set 4 (.int 0)).set 5 (.int 0)).set 6 (.int (-1))).set 6 (.int 0)).set 7 (.int 0)).set 8 (.int 0)).set 3 (.int 2)).set 4 (.int 0)).set 7 (.int 44)).set 7 (.int 44)))), (h6, .inr (3, ((((f3.set 6 (.ref h5)).set 7 (.int 0)).set 8 (.int 0)).set 5 (.int 0)))), (h10, .inr (2, f4)), (h8, .inl (cI, 2001, .inl (upd g0 0 0))), (h9, .inl (cI, 2001, .inl (upd g1 0 0)))] H := hP
  have hD : va_D A [(h1, .inr (12, f5)), (h11, .inl (cI, 2001, .inl g2)), (h12, .inl (cI, 2001, .inl g3)), (h13, .inl (cI, 2001, .inl g4)), (h14, .inl (cI, 2001, .inl g5)), (h0, .inr (11, ((f0.set 12 (.int 0)).set 13 (.int 2)))), (h3, .inr (1, f1)), (h4, .inr (8, (((((((((((f2.set 3 (.int 0)).set 4 (.int 0)).set 5 (.int 0)).set 6 (.int (-1))).set 6 (.int 0)).set 7 (.int 0)).set 8 (.int 0)).set 3 (.int 2)).set 4 (.int 0)).set 7 (.int 44)).set 7 (.int 44)))), (h6, .inr (3, ((((f3.set 6 (.ref h5)).set 7 (.int 0)).set 8 (.int 0)).set 5 (.int 0)))), (h10, .inr (2, f4)), (h8, .inl (cI, 2001, .inl (upd g0 0 0))), (h9, .inl (cI, 2001, .inl (upd g1 0 0)))] := hD
  refine lv_aload_n hx hb dL_law_722 rfl (lv_at hl 2 rfl) ?_
  refine k_cVi (As := []) (rest := [.int (-1000)]) (wc := [(h1, .inr (12, f5)), (h11, .inl (cI, 2001, .inl g2)), (h12, .inl (cI, 2001, .inl g3)), (h13, .inl (cI, 2001, .inl g4)), (h14, .inl (cI, 2001, .inl g5))]) (wr := [(h0, .inr (11, ((f0.set 12 (.int 0)).set 13 (.int 2)))), (h3, .inr (1, f1)), (h4, .inr (8, (((((((((((f2.set 3 (.int 0)).set 4 (.int 0)).set 5 (.int 0)).set 6 (.int (-1))).set 6 (.int 0)).set 7 (.int 0)).set 8 (.int 0)).set 3 (.int 2)).set 4 (.int 0)).set 7 (.int 44)).set 7 (.int 44)))), (h6, .inr (3, ((((f3.set 6 (.ref h5)).set 7 (.int 0)).set 8 (.int 0)).set 5 (.int 0)))), (h10, .inr (2, f4)), (h8, .inl (cI, 2001, .inl (upd g0 0 0))), (h9, .inl (cI, 2001, .inl (upd g1 0 0)))]) (w1 := [(h1, .inr (12, ((((((((((((f5.set 0 (.int 0)).set 12 (.int 0)).set 2 (.int 0)).set 36 (.int 0)).set 37 (.int 0)).set 27 (.int 0)).set 31 (.int 0)).set 28 (.int 0)).set 31 (.int 1)).set 29 (.int 2)).set 30 (.int 0)).set 109 (.int 2)))), (h11, .inl (cI, 2001, .inl (upd g2 0 0))), (h12, .inl (cI, 2001, .inl (upd g3 0 0))), (h13, .inl (cI, 2001, .inl (upd g4 0 0))), (h14, .inl (cI, 2001, .inl (upd g5 0 0)))]) ⟨hx, hb, hml, hown, hts⟩ hN hX hAE hK hP hD hS hA [0, 1, 2, 3, 4] [5, 6, 7, 8, 9, 10, 11] (ci := 12) rfl rfl rfl rfl (by decide +kernel) (by decide +kernel) (by decide +kernel) (c_X12_find_0 l E D cI cJ cB cZ h1 f5 h11 h12 h13 h14 g2 g3 g4 g5 e21 e22 e23 e24 e25 e26 e27 e28 e29 e30 e31 e32 e33 e34 e35 e36 e37 e38 e39) (cwV 0 hts g9_L_law_X12_find_122 rfl rfl rfl (by decide +kernel) ⟨Nat.le_of_ble_eq_true rfl, Nat.le_of_ble_eq_true rfl⟩) rfl hl.1 (Nat.le_of_ble_eq_true rfl) dL_law_723 ⟨Nat.le_of_ble_eq_true rfl, Nat.le_of_ble_eq_true rfl⟩ (fun H locs hP hD hS => ?_)
  have hP : va_P D vwCl [(h0, .inr (11, ((f0.set 12 (.int 0)).set 13 (.int 2)))), (h3, .inr (1, f1)), (h4, .inr (8, (((((((((((f2.set 3 (.int 0)).set 4 (.int 0)).set 5 (.int 0)).set 6 (.int (-1))).set 6 (.int 0)).set 7 (.int 0)).set 8 (.int 0)).set 3 (.int 2)).set 4 (.int 0)).set 7 (.int 44)).set 7 (.int 44)))), (h6, .inr (3, ((((f3.set 6 (.ref h5)).set 7 (.int 0)).set 8 (.int 0)).set 5 (.int 0)))), (h10, .inr (2, f4)), (h8, .inl (cI, 2001, .inl (upd g0 0 0))), (h9, .inl (cI, 2001, .inl (upd g1 0 0))), (h1, .inr (12, ((((((((((((f5.set 0 (.int 0)).set 12 (.int 0)).set 2 (.int 0)).set 36 (.int 0)).set 37 (.int 0)).set 27 (.int 0)).set 31 (.int 0)).set 28 (.int 0)).set 31 (.int 1)).set 29 (.int 2)).set 30 (.int 0)).set 109 (.int 2)))), (h11, .inl (cI, 2001, .inl (upd g2 0 0))), (h12, .inl (cI, 2001, .inl (upd g3 0 0))), (h13, .inl (cI, 2001, .inl (upd g4 0 0))), (h14, .inl (cI, 2001, .inl (upd g5 0 0)))] H := hP
  have hD : va_D A [(h0, .inr (11, ((f0.set 12 (.int 0)).set 13 (.int 2)))), (h3, .inr (1, f1)), (h4, .inr (8, (((((((((((f2.set 3 (.int 0)).set 4 (.int 0)).set 5 (.int 0)).set 6 (.int (-1))).set 6 (.int 0)).set 7 (.int 0)).set 8 (.int 0)).set 3 (.int 2)).set 4 (.int 0)).set 7 (.int 44)).set 7 (.int 44)))), (h6, .inr (3, ((((f3.set 6 (.ref h5)).set 7 (.int 0)).set 8 (.int 0)).set 5 (.int 0)))), (h10, .inr (2, f4)), (h8, .inl (cI, 2001, .inl (upd g0 0 0))), (h9, .inl (cI, 2001, .inl (upd g1 0 0))), (h1, .inr (12, ((((((((((((f5.set 0 (.int 0)).set 12 (.int 0)).set 2 (.int 0)).set 36 (.int 0)).set 37 (.int 0)).set 27 (.int 0)).set 31 (.int 0)).set 28 (.int 0)).set 31 (.int 1)).set 29 (.int 2)).set 30 (.int 0)).set 109 (.int 2)))), (h11, .inl (cI, 2001, .inl (upd g2 0 0))), (h12, .inl (cI, 2001, .inl (upd g3 0 0))), (h13, .inl (cI, 2001, .inl (upd g4 0 0))), (h14, .inl (cI, 2001, .inl (upd g5 0 0)))] := hD
  refine lv_icmp_eq (tgt := 1765) hx hb dL_law_726 (by decide) (fun _ => ?_) (fun c9 => absurd (by decide) c9)
  refine W.widen (k := 601024) (n := 7293034) (Nat.le_of_ble_eq_true rfl) (Nat.le_of_ble_eq_true rfl) ?_
  exact T9 _ _ _ hS (lv_sub hl [0, 4] rfl)
set_option maxHeartbeats 400000000 in
set_option maxRecDepth 100000 in
theorem law_15_0 {p : Program} {l : Launch} {e : Env} {s : State} {m : MethodId} {below : List Frame} {meth : Method} {c : Code} {b : Nat} {xs : Nat → Int32} (E : kE) (D : va_G) (cI cJ cB cZ : ClassId) (A : Nat → Prop) (Q : State → Prop) (h0 : Nat) (h1 : Nat) (h2 : Nat) (f0 : List Value) (h3 : Nat) (f1 : List Value) (h4 : Nat) (f2 : List Value) (f3 : List Value) (e0 : f0[1]? = some (.ref h3)) (e1 : f1[8]? = some (.int 0)) (e2 : f0[2]? = some (.ref h4)) (e3 : ((xs 1) : Int32) < 0) (e4 : f3[0]? = some (.int 0)) (e5 : f3[5]? = some (.int 0)) (e6 : f3[33]? = some (.int 0)) (X9 : kLaw p l s m c b xs E D cI cJ cB cZ A) (T9 : kTail p l e s m b below meth c A Q) {H : Heap} {locs : List Loc} {ls : Array Slot} (hP : va_P D vwCl [(h0, .inr (11, f0)), (h3, .inr (1, f1)), (h4, .inr (2, f2)), (h1, .inr (12, f3))] H) (hD : va_D A [(h0, .inr (11, f0)), (h3, .inr (1, f1)), (h4, .inr (2, f2)), (h1, .inr (12, f3))]) (hS : va_S A s.heap H locs) (hl : lv_has ls 8 [(0, .ref b), (1, .ref h0), (2, .ref h1), (3, .ref h2), (4, .int 0)]) : W p l e room_1 s m #[Value.ref b] below meth c H locs 218 1205840 Q (F0 m 731 ls []) := by
  obtain ⟨hl9, hx, hb, hml, hown, hts, hN, hX, hAE, hK, hA, hXs, hbl, hbA⟩ := X9
  refine lv_aload_n hx hb dL_law_731 rfl (lv_at hl 1 rfl) ?_
  refine lv_aload_n hx hb dL_law_732 rfl (lv_at hl 0 rfl) ?_
  refine lv_iload hx hb dL_law_733 (lv_at hl 4 rfl) ?_
  refine lv_iconst (v := 1) hx hb dL_law_735 (by decide) ?_
  refine lv_iadd hx hb dL_law_736 ?_
  refine k_topi (y := 1) (by decide) ?_
  refine va_sld (xs := xs) hx hb hXs hbl hbA hS (k_in (by decide)) dL_law_737 ?_
  refine k_topi (y := (xs 1)) (congrArg xs (by decide)) ?_
  refine lv_aload_n hx hb dL_law_738 rfl (lv_at hl 0 rfl) ?_
  refine lv_iload hx hb dL_law_739 (lv_at hl 4 rfl) ?_
  refine lv_iconst (v := 2) hx hb dL_law_741 (by decide) ?_
  refine lv_iadd hx hb dL_law_742 ?_
  refine k_topi (y := 2) (by decide) ?_
  refine va_sld (xs := xs) hx hb hXs hbl hbA hS (k_in (by decide)) dL_law_743 ?_
  refine k_topi (y := (xs 2)) (congrArg xs (by decide)) ?_
  refine k_cVi (As := [.int (xs 1), .int (xs 2)]) (rest := []) (wc := [(h0, .inr (11, f0)), (h3, .inr (1, f1)), (h4, .inr (2, f2))]) (wr := [(h1, .inr (12, f3))]) (w1 := [(h0, .inr (11, f0)), (h3, .inr (1, f1)), (h4, .inr (2, f2))]) ⟨hx, hb, hml, hown, hts⟩ hN hX hAE hK hP hD hS hA [0, 1, 2] [3] (ci := 11) rfl rfl rfl rfl (by decide +kernel) (by decide +kernel) (by decide +kernel) (c_X11_about_1 l E D cI cJ cB cZ h0 (xs 1) (xs 2) f0 h3 f1 h4 f2 e0 e1 e2 e3) (cwV 2 hts g9_L_law_X11_about_123 rfl rfl rfl (by decide +kernel) ⟨Nat.le_of_ble_eq_true rfl, Nat.le_of_ble_eq_true rfl⟩) rfl hl.1 (Nat.le_of_ble_eq_true rfl) dL_law_744 ⟨Nat.le_of_ble_eq_true rfl, Nat.le_of_ble_eq_true rfl⟩ (fun H locs hP hD hS => ?_)
  have hP : va_P D vwCl [(h1, .inr (12, f3)), (h0, .inr (11, f0)), (h3, .inr (1, f1)), (h4, .inr (2, f2))] H := hP
  have hD : va_D A [(h1, .inr (12, f3)), (h0, .inr (11, f0)), (h3, .inr (1, f1)), (h4, .inr (2, f2))] := hD
  refine lv_aload_n hx hb dL_law_747 rfl (lv_at hl 2 rfl) ?_
  refine lv_aload_n hx hb dL_law_748 rfl (lv_at hl 0 rfl) ?_
  refine lv_iload hx hb dL_law_749 (lv_at hl 4 rfl) ?_
  refine lv_iconst (v := 1) hx hb dL_law_751 (by decide) ?_
  refine lv_iadd hx hb dL_law_752 ?_
  refine k_topi (y := 1) (by decide) ?_
  refine va_sld (xs := xs) hx hb hXs hbl hbA hS (k_in (by decide)) dL_law_753 ?_
  refine k_topi (y := (xs 1)) (congrArg xs (by decide)) ?_
  refine lv_aload_n hx hb dL_law_754 rfl (lv_at hl 0 rfl) ?_
  refine lv_iload hx hb dL_law_755 (lv_at hl 4 rfl) ?_
  refine lv_iconst (v := 2) hx hb dL_law_757 (by decide) ?_
  refine lv_iadd hx hb dL_law_758 ?_
  refine k_topi (y := 2) (by decide) ?_
  refine va_sld (xs := xs) hx hb hXs hbl hbA hS (k_in (by decide)) dL_law_759 ?_
  refine k_topi (y := (xs 2)) (congrArg xs (by decide)) ?_
  refine k_cVi (As := [.int (xs 1), .int (xs 2)]) (rest := [.int (-101)]) (wc := [(h1, .inr (12, f3))]) (wr := [(h0, .inr (11, f0)), (h3, .inr (1, f1)), (h4, .inr (2, f2))]) (w1 := [(h1, .inr (12, (f3.set 0 (.int 0))))]) ⟨hx, hb, hml, hown, hts⟩ hN hX hAE hK hP hD hS hA [0] [1, 2, 3] (ci := 12) rfl rfl rfl rfl (by decide +kernel) (by decide +kernel) (by decide +kernel) (c_X12_about_1 l E D cI cJ cB cZ h1 (xs 1) (xs 2) f3 e4 e5 e6 e3) (cwV 2 hts g9_L_law_X12_about_126 rfl rfl rfl (by decide +kernel) ⟨Nat.le_of_ble_eq_true rfl, Nat.le_of_ble_eq_true rfl⟩) rfl hl.1 (Nat.le_of_ble_eq_true rfl) dL_law_760 ⟨Nat.le_of_ble_eq_true rfl, Nat.le_of_ble_eq_true rfl⟩ (fun H locs hP hD hS => ?_)
  have hP : va_P D vwCl [(h0, .inr (11, f0)), (h3, .inr (1, f1)), (h4, .inr (2, f2)), (h1, .inr (12, (f3.set 0 (.int 0))))] H := hP
  have hD : va_D A [(h0, .inr (11, f0)), (h3, .inr (1, f1)), (h4, .inr (2, f2)), (h1, .inr (12, (f3.set 0 (.int 0))))] := hD
  refine lv_icmp_eq (tgt := 1765) hx hb dL_law_763 (by decide) (fun _ => ?_) (fun c9 => absurd (by decide) c9)
  refine W.widen (k := 601024) (n := 7293034) (Nat.le_of_ble_eq_true rfl) (Nat.le_of_ble_eq_true rfl) ?_
  exact T9 _ _ _ hS (lv_sub hl [0, 4] rfl)
set_option maxHeartbeats 400000000 in
set_option maxRecDepth 100000 in
theorem law_15_1 {p : Program} {l : Launch} {e : Env} {s : State} {m : MethodId} {below : List Frame} {meth : Method} {c : Code} {b : Nat} {xs : Nat → Int32} (E : kE) (D : va_G) (cI cJ cB cZ : ClassId) (A : Nat → Prop) (Q : State → Prop) (h0 : Nat) (h1 : Nat) (h2 : Nat) (f0 : List Value) (h3 : Nat) (f1 : List Value) (h4 : Nat) (f2 : List Value) (f3 : List Value) (e0 : f0[1]? = some (.ref h3)) (e1 : f1[8]? = some (.int 0)) (e2 : f0[2]? = some (.ref h4)) (e3 : ¬ (((xs 1) : Int32) < 0)) (e4 : f2[11]? = some (.int 0)) (e5 : f3[0]? = some (.int 0)) (e6 : f3[5]? = some (.int 0)) (e7 : f3[33]? = some (.int 0)) (X9 : kLaw p l s m c b xs E D cI cJ cB cZ A) (T9 : kTail p l e s m b below meth c A Q) {H : Heap} {locs : List Loc} {ls : Array Slot} (hP : va_P D vwCl [(h0, .inr (11, f0)), (h3, .inr (1, f1)), (h4, .inr (2, f2)), (h1, .inr (12, f3))] H) (hD : va_D A [(h0, .inr (11, f0)), (h3, .inr (1, f1)), (h4, .inr (2, f2)), (h1, .inr (12, f3))]) (hS : va_S A s.heap H locs) (hl : lv_has ls 8 [(0, .ref b), (1, .ref h0), (2, .ref h1), (3, .ref h2), (4, .int 0)]) : W p l e room_1 s m #[Value.ref b] below meth c H locs 218 1205840 Q (F0 m 731 ls []) := by
  obtain ⟨hl9, hx, hb, hml, hown, hts, hN, hX, hAE, hK, hA, hXs, hbl, hbA⟩ := X9
  refine lv_aload_n hx hb dL_law_731 rfl (lv_at hl 1 rfl) ?_
  refine lv_aload_n hx hb dL_law_732 rfl (lv_at hl 0 rfl) ?_
  refine lv_iload hx hb dL_law_733 (lv_at hl 4 rfl) ?_
  refine lv_iconst (v := 1) hx hb dL_law_735 (by decide) ?_
  refine lv_iadd hx hb dL_law_736 ?_
  refine k_topi (y := 1) (by decide) ?_
  refine va_sld (xs := xs) hx hb hXs hbl hbA hS (k_in (by decide)) dL_law_737 ?_
  refine k_topi (y := (xs 1)) (congrArg xs (by decide)) ?_
  refine lv_aload_n hx hb dL_law_738 rfl (lv_at hl 0 rfl) ?_
  refine lv_iload hx hb dL_law_739 (lv_at hl 4 rfl) ?_
  refine lv_iconst (v := 2) hx hb dL_law_741 (by decide) ?_
  refine lv_iadd hx hb dL_law_742 ?_
  refine k_topi (y := 2) (by decide) ?_
  refine va_sld (xs := xs) hx hb hXs hbl hbA hS (k_in (by decide)) dL_law_743 ?_
  refine k_topi (y := (xs 2)) (congrArg xs (by decide)) ?_
  refine k_cVi (As := [.int (xs 1), .int (xs 2)]) (rest := []) (wc := [(h0, .inr (11, f0)), (h3, .inr (1, f1)), (h4, .inr (2, f2))]) (wr := [(h1, .inr (12, f3))]) (w1 := [(h0, .inr (11, f0)), (h3, .inr (1, f1)), (h4, .inr (2, f2))]) ⟨hx, hb, hml, hown, hts⟩ hN hX hAE hK hP hD hS hA [0, 1, 2] [3] (ci := 11) rfl rfl rfl rfl (by decide +kernel) (by decide +kernel) (by decide +kernel) (c_X11_about_0 l E D cI cJ cB cZ h0 (xs 1) (xs 2) f0 h3 f1 h4 f2 e0 e1 e2 e3 e4) (cwV 2 hts g9_L_law_X11_about_123 rfl rfl rfl (by decide +kernel) ⟨Nat.le_of_ble_eq_true rfl, Nat.le_of_ble_eq_true rfl⟩) rfl hl.1 (Nat.le_of_ble_eq_true rfl) dL_law_744 ⟨Nat.le_of_ble_eq_true rfl, Nat.le_of_ble_eq_true rfl⟩ (fun H locs hP hD hS => ?_)
  have hP : va_P D vwCl [(h1, .inr (12, f3)), (h0, .inr (11, f0)), (h3, .inr (1, f1)), (h4, .inr (2, f2))] H := hP
  have hD : va_D A [(h1, .inr (12, f3)), (h0, .inr (11, f0)), (h3, .inr (1, f1)), (h4, .inr (2, f2))] := hD
  refine lv_aload_n hx hb dL_law_747 rfl (lv_at hl 2 rfl) ?_
  refine lv_aload_n hx hb dL_law_748 rfl (lv_at hl 0 rfl) ?_
  refine lv_iload hx hb dL_law_749 (lv_at hl 4 rfl) ?_
  refine lv_iconst (v := 1) hx hb dL_law_751 (by decide) ?_
  refine lv_iadd hx hb dL_law_752 ?_
  refine k_topi (y := 1) (by decide) ?_
  refine va_sld (xs := xs) hx hb hXs hbl hbA hS (k_in (by decide)) dL_law_753 ?_
  refine k_topi (y := (xs 1)) (congrArg xs (by decide)) ?_
  refine lv_aload_n hx hb dL_law_754 rfl (lv_at hl 0 rfl) ?_
  refine lv_iload hx hb dL_law_755 (lv_at hl 4 rfl) ?_
  refine lv_iconst (v := 2) hx hb dL_law_757 (by decide) ?_
  refine lv_iadd hx hb dL_law_758 ?_
  refine k_topi (y := 2) (by decide) ?_
  refine va_sld (xs := xs) hx hb hXs hbl hbA hS (k_in (by decide)) dL_law_759 ?_
  refine k_topi (y := (xs 2)) (congrArg xs (by decide)) ?_
  refine k_cVi (As := [.int (xs 1), .int (xs 2)]) (rest := [.int (-101)]) (wc := [(h1, .inr (12, f3))]) (wr := [(h0, .inr (11, f0)), (h3, .inr (1, f1)), (h4, .inr (2, f2))]) (w1 := [(h1, .inr (12, (f3.set 0 (.int 0))))]) ⟨hx, hb, hml, hown, hts⟩ hN hX hAE hK hP hD hS hA [0] [1, 2, 3] (ci := 12) rfl rfl rfl rfl (by decide +kernel) (by decide +kernel) (by decide +kernel) (c_X12_about_0 l E D cI cJ cB cZ h1 (xs 1) (xs 2) f3 e5 e6 e7 e3) (cwV 2 hts g9_L_law_X12_about_126 rfl rfl rfl (by decide +kernel) ⟨Nat.le_of_ble_eq_true rfl, Nat.le_of_ble_eq_true rfl⟩) rfl hl.1 (Nat.le_of_ble_eq_true rfl) dL_law_760 ⟨Nat.le_of_ble_eq_true rfl, Nat.le_of_ble_eq_true rfl⟩ (fun H locs hP hD hS => ?_)
  have hP : va_P D vwCl [(h0, .inr (11, f0)), (h3, .inr (1, f1)), (h4, .inr (2, f2)), (h1, .inr (12, (f3.set 0 (.int 0))))] H := hP
  have hD : va_D A [(h0, .inr (11, f0)), (h3, .inr (1, f1)), (h4, .inr (2, f2)), (h1, .inr (12, (f3.set 0 (.int 0))))] := hD
  refine lv_icmp_eq (tgt := 1765) hx hb dL_law_763 (by decide) (fun _ => ?_) (fun c9 => absurd (by decide) c9)
  refine W.widen (k := 601024) (n := 7293034) (Nat.le_of_ble_eq_true rfl) (Nat.le_of_ble_eq_true rfl) ?_
  exact T9 _ _ _ hS (lv_sub hl [0, 4] rfl)
set_option maxHeartbeats 400000000 in
set_option maxRecDepth 100000 in
theorem law_16_0 {p : Program} {l : Launch} {e : Env} {s : State} {m : MethodId} {below : List Frame} {meth : Method} {c : Code} {b : Nat} {xs : Nat → Int32} (E : kE) (D : va_G) (cI cJ cB cZ : ClassId) (A : Nat → Prop) (Q : State → Prop) (h0 : Nat) (h1 : Nat) (h2 : Nat) (f0 : List Value) (h3 : Nat) (f1 : List Value) (h4 : Nat) (f2 : List Value) (f3 : List Value) (e0 : f0[1]? = some (.ref h3)) (e1 : f1[8]? = some (.int 0)) (e2 : f0[2]? = some (.ref h4)) (e3 : ((xs 1) : Int32) < 0) (e4 : f3[0]? = some (.int 0)) (e5 : f3[5]? = some (.int 0)) (e6 : f3[33]? = some (.int 0)) (X9 : kLaw p l s m c b xs E D cI cJ cB cZ A) (T9 : kTail p l e s m b below meth c A Q) {H : Heap} {locs : List Loc} {ls : Array Slot} (hP : va_P D vwCl [(h0, .inr (11, f0)), (h3, .inr (1, f1)), (h4, .inr (2, f2)), (h1, .inr (12, f3))] H) (hD : va_D A [(h0, .inr (11, f0)), (h3, .inr (1, f1)), (h4, .inr (2, f2)), (h1, .inr (12, f3))]) (hS : va_S A s.heap H locs) (hl : lv_has ls 8 [(0, .ref b), (1, .ref h0), (2, .ref h1), (3, .ref h2), (4, .int 0)]) : W p l e room_1 s m #[Value.ref b] below meth c H locs 218 1205840 Q (F0 m 768 ls []) := by
  obtain ⟨hl9, hx, hb, hml, hown, hts, hN, hX, hAE, hK, hA, hXs, hbl, hbA⟩ := X9
  refine lv_aload_n hx hb dL_law_768 rfl (lv_at hl 1 rfl) ?_
  refine lv_aload_n hx hb dL_law_769 rfl (lv_at hl 0 rfl) ?_
  refine lv_iload hx hb dL_law_770 (lv_at hl 4 rfl) ?_
  refine lv_iconst (v := 1) hx hb dL_law_772 (by decide) ?_
  refine lv_iadd hx hb dL_law_773 ?_
  refine k_topi (y := 1) (by decide) ?_
  refine va_sld (xs := xs) hx hb hXs hbl hbA hS (k_in (by decide)) dL_law_774 ?_
  refine k_topi (y := (xs 1)) (congrArg xs (by decide)) ?_
  refine lv_aload_n hx hb dL_law_775 rfl (lv_at hl 0 rfl) ?_
  refine lv_iload hx hb dL_law_776 (lv_at hl 4 rfl) ?_
  refine lv_iconst (v := 2) hx hb dL_law_778 (by decide) ?_
  refine lv_iadd hx hb dL_law_779 ?_
  refine k_topi (y := 2) (by decide) ?_
  refine va_sld (xs := xs) hx hb hXs hbl hbA hS (k_in (by decide)) dL_law_780 ?_
  refine k_topi (y := (xs 2)) (congrArg xs (by decide)) ?_
  refine lv_aload_n hx hb dL_law_781 rfl (lv_at hl 0 rfl) ?_
  refine lv_iload hx hb dL_law_782 (lv_at hl 4 rfl) ?_
  refine lv_iconst (v := 3) hx hb dL_law_784 (by decide) ?_
  refine lv_iadd hx hb dL_law_785 ?_
  refine k_topi (y := 3) (by decide) ?_
  refine va_sld (xs := xs) hx hb hXs hbl hbA hS (k_in (by decide)) dL_law_786 ?_
  refine k_topi (y := (xs 3)) (congrArg xs (by decide)) ?_
  refine k_cVi (As := [.int (xs 1), .int (xs 2), .int (xs 3)]) (rest := []) (wc := [(h0, .inr (11, f0)), (h3, .inr (1, f1)), (h4, .inr (2, f2))]) (wr := [(h1, .inr (12, f3))]) (w1 := [(h0, .inr (11, f0)), (h3, .inr (1, f1)), (h4, .inr (2, f2))]) ⟨hx, hb, hml, hown, hts⟩ hN hX hAE hK hP hD hS hA [0, 1, 2] [3] (ci := 11) rfl rfl rfl rfl (by decide +kernel) (by decide +kernel) (by decide +kernel) (c_X11_atom_1 l E D cI cJ cB cZ h0 (xs 1) (xs 2) (xs 3) f0 h3 f1 h4 f2 e0 e1 e2 e3) (cwV 3 hts g9_L_law_X11_atom_127 rfl rfl rfl (by decide +kernel) ⟨Nat.le_of_ble_eq_true rfl, Nat.le_of_ble_eq_true rfl⟩) rfl hl.1 (Nat.le_of_ble_eq_true rfl) dL_law_787 ⟨Nat.le_of_ble_eq_true rfl, Nat.le_of_ble_eq_true rfl⟩ (fun H locs hP hD hS => ?_)
  have hP : va_P D vwCl [(h1, .inr (12, f3)), (h0, .inr (11, f0)), (h3, .inr (1, f1)), (h4, .inr (2, f2))] H := hP
  have hD : va_D A [(h1, .inr (12, f3)), (h0, .inr (11, f0)), (h3, .inr (1, f1)), (h4, .inr (2, f2))] := hD
  refine lv_aload_n hx hb dL_law_790 rfl (lv_at hl 2 rfl) ?_
  refine lv_aload_n hx hb dL_law_791 rfl (lv_at hl 0 rfl) ?_
  refine lv_iload hx hb dL_law_792 (lv_at hl 4 rfl) ?_
  refine lv_iconst (v := 1) hx hb dL_law_794 (by decide) ?_
  refine lv_iadd hx hb dL_law_795 ?_
  refine k_topi (y := 1) (by decide) ?_
  refine va_sld (xs := xs) hx hb hXs hbl hbA hS (k_in (by decide)) dL_law_796 ?_
  refine k_topi (y := (xs 1)) (congrArg xs (by decide)) ?_
  refine lv_aload_n hx hb dL_law_797 rfl (lv_at hl 0 rfl) ?_
  refine lv_iload hx hb dL_law_798 (lv_at hl 4 rfl) ?_
  refine lv_iconst (v := 2) hx hb dL_law_800 (by decide) ?_
  refine lv_iadd hx hb dL_law_801 ?_
  refine k_topi (y := 2) (by decide) ?_
  refine va_sld (xs := xs) hx hb hXs hbl hbA hS (k_in (by decide)) dL_law_802 ?_
  refine k_topi (y := (xs 2)) (congrArg xs (by decide)) ?_
  refine lv_aload_n hx hb dL_law_803 rfl (lv_at hl 0 rfl) ?_
  refine lv_iload hx hb dL_law_804 (lv_at hl 4 rfl) ?_
  refine lv_iconst (v := 3) hx hb dL_law_806 (by decide) ?_
  refine lv_iadd hx hb dL_law_807 ?_
  refine k_topi (y := 3) (by decide) ?_
  refine va_sld (xs := xs) hx hb hXs hbl hbA hS (k_in (by decide)) dL_law_808 ?_
  refine k_topi (y := (xs 3)) (congrArg xs (by decide)) ?_
  refine k_cVi (As := [.int (xs 1), .int (xs 2), .int (xs 3)]) (rest := [.int (-101)]) (wc := [(h1, .inr (12, f3))]) (wr := [(h0, .inr (11, f0)), (h3, .inr (1, f1)), (h4, .inr (2, f2))]) (w1 := [(h1, .inr (12, (f3.set 0 (.int 0))))]) ⟨hx, hb, hml, hown, hts⟩ hN hX hAE hK hP hD hS hA [0] [1, 2, 3] (ci := 12) rfl rfl rfl rfl (by decide +kernel) (by decide +kernel) (by decide +kernel) (c_X12_atom_1 l E D cI cJ cB cZ h1 (xs 1) (xs 2) (xs 3) f3 e4 e5 e6 e3) (cwV 3 hts g9_L_law_X12_atom_130 rfl rfl rfl (by decide +kernel) ⟨Nat.le_of_ble_eq_true rfl, Nat.le_of_ble_eq_true rfl⟩) rfl hl.1 (Nat.le_of_ble_eq_true rfl) dL_law_809 ⟨Nat.le_of_ble_eq_true rfl, Nat.le_of_ble_eq_true rfl⟩ (fun H locs hP hD hS => ?_)
  have hP : va_P D vwCl [(h0, .inr (11, f0)), (h3, .inr (1, f1)), (h4, .inr (2, f2)), (h1, .inr (12, (f3.set 0 (.int 0))))] H := hP
  have hD : va_D A [(h0, .inr (11, f0)), (h3, .inr (1, f1)), (h4, .inr (2, f2)), (h1, .inr (12, (f3.set 0 (.int 0))))] := hD
  refine lv_icmp_eq (tgt := 1765) hx hb dL_law_812 (by decide) (fun _ => ?_) (fun c9 => absurd (by decide) c9)
  refine W.widen (k := 601024) (n := 7293034) (Nat.le_of_ble_eq_true rfl) (Nat.le_of_ble_eq_true rfl) ?_
  exact T9 _ _ _ hS (lv_sub hl [0, 4] rfl)
set_option maxHeartbeats 400000000 in
set_option maxRecDepth 100000 in
theorem law_16_1 {p : Program} {l : Launch} {e : Env} {s : State} {m : MethodId} {below : List Frame} {meth : Method} {c : Code} {b : Nat} {xs : Nat → Int32} (E : kE) (D : va_G) (cI cJ cB cZ : ClassId) (A : Nat → Prop) (Q : State → Prop) (h0 : Nat) (h1 : Nat) (h2 : Nat) (f0 : List Value) (h3 : Nat) (f1 : List Value) (h4 : Nat) (f2 : List Value) (f3 : List Value) (e0 : f0[1]? = some (.ref h3)) (e1 : f1[8]? = some (.int 0)) (e2 : f0[2]? = some (.ref h4)) (e3 : ¬ (((xs 1) : Int32) < 0)) (e4 : f2[11]? = some (.int 0)) (e5 : f3[0]? = some (.int 0)) (e6 : f3[5]? = some (.int 0)) (e7 : f3[33]? = some (.int 0)) (X9 : kLaw p l s m c b xs E D cI cJ cB cZ A) (T9 : kTail p l e s m b below meth c A Q) {H : Heap} {locs : List Loc} {ls : Array Slot} (hP : va_P D vwCl [(h0, .inr (11, f0)), (h3, .inr (1, f1)), (h4, .inr (2, f2)), (h1, .inr (12, f3))] H) (hD : va_D A [(h0, .inr (11, f0)), (h3, .inr (1, f1)), (h4, .inr (2, f2)), (h1, .inr (12, f3))]) (hS : va_S A s.heap H locs) (hl : lv_has ls 8 [(0, .ref b), (1, .ref h0), (2, .ref h1), (3, .ref h2), (4, .int 0)]) : W p l e room_1 s m #[Value.ref b] below meth c H locs 218 1205840 Q (F0 m 768 ls []) := by
  obtain ⟨hl9, hx, hb, hml, hown, hts, hN, hX, hAE, hK, hA, hXs, hbl, hbA⟩ := X9
  refine lv_aload_n hx hb dL_law_768 rfl (lv_at hl 1 rfl) ?_
  refine lv_aload_n hx hb dL_law_769 rfl (lv_at hl 0 rfl) ?_
  refine lv_iload hx hb dL_law_770 (lv_at hl 4 rfl) ?_
  refine lv_iconst (v := 1) hx hb dL_law_772 (by decide) ?_
  refine lv_iadd hx hb dL_law_773 ?_
  refine k_topi (y := 1) (by decide) ?_
  refine va_sld (xs := xs) hx hb hXs hbl hbA hS (k_in (by decide)) dL_law_774 ?_
  refine k_topi (y := (xs 1)) (congrArg xs (by decide)) ?_
  refine lv_aload_n hx hb dL_law_775 rfl (lv_at hl 0 rfl) ?_
  refine lv_iload hx hb dL_law_776 (lv_at hl 4 rfl) ?_
  refine lv_iconst (v := 2) hx hb dL_law_778 (by decide) ?_
  refine lv_iadd hx hb dL_law_779 ?_
  refine k_topi (y := 2) (by decide) ?_
  refine va_sld (xs := xs) hx hb hXs hbl hbA hS (k_in (by decide)) dL_law_780 ?_
  refine k_topi (y := (xs 2)) (congrArg xs (by decide)) ?_
  refine lv_aload_n hx hb dL_law_781 rfl (lv_at hl 0 rfl) ?_
  refine lv_iload hx hb dL_law_782 (lv_at hl 4 rfl) ?_
  refine lv_iconst (v := 3) hx hb dL_law_784 (by decide) ?_
  refine lv_iadd hx hb dL_law_785 ?_
  refine k_topi (y := 3) (by decide) ?_
  refine va_sld (xs := xs) hx hb hXs hbl hbA hS (k_in (by decide)) dL_law_786 ?_
  refine k_topi (y := (xs 3)) (congrArg xs (by decide)) ?_
  refine k_cVi (As := [.int (xs 1), .int (xs 2), .int (xs 3)]) (rest := []) (wc := [(h0, .inr (11, f0)), (h3, .inr (1, f1)), (h4, .inr (2, f2))]) (wr := [(h1, .inr (12, f3))]) (w1 := [(h0, .inr (11, f0)), (h3, .inr (1, f1)), (h4, .inr (2, f2))]) ⟨hx, hb, hml, hown, hts⟩ hN hX hAE hK hP hD hS hA [0, 1, 2] [3] (ci := 11) rfl rfl rfl rfl (by decide +kernel) (by decide +kernel) (by decide +kernel) (c_X11_atom_0 l E D cI cJ cB cZ h0 (xs 1) (xs 2) (xs 3) f0 h3 f1 h4 f2 e0 e1 e2 e3 e4) (cwV 3 hts g9_L_law_X11_atom_127 rfl rfl rfl (by decide +kernel) ⟨Nat.le_of_ble_eq_true rfl, Nat.le_of_ble_eq_true rfl⟩) rfl hl.1 (Nat.le_of_ble_eq_true rfl) dL_law_787 ⟨Nat.le_of_ble_eq_true rfl, Nat.le_of_ble_eq_true rfl⟩ (fun H locs hP hD hS => ?_)
  have hP : va_P D vwCl [(h1, .inr (12, f3)), (h0, .inr (11, f0)), (h3, .inr (1, f1)), (h4, .inr (2, f2))] H := hP
  have hD : va_D A [(h1, .inr (12, f3)), (h0, .inr (11, f0)), (h3, .inr (1, f1)), (h4, .inr (2, f2))] := hD
  refine lv_aload_n hx hb dL_law_790 rfl (lv_at hl 2 rfl) ?_
  refine lv_aload_n hx hb dL_law_791 rfl (lv_at hl 0 rfl) ?_
  refine lv_iload hx hb dL_law_792 (lv_at hl 4 rfl) ?_
  refine lv_iconst (v := 1) hx hb dL_law_794 (by decide) ?_
  refine lv_iadd hx hb dL_law_795 ?_
  refine k_topi (y := 1) (by decide) ?_
  refine va_sld (xs := xs) hx hb hXs hbl hbA hS (k_in (by decide)) dL_law_796 ?_
  refine k_topi (y := (xs 1)) (congrArg xs (by decide)) ?_
  refine lv_aload_n hx hb dL_law_797 rfl (lv_at hl 0 rfl) ?_
  refine lv_iload hx hb dL_law_798 (lv_at hl 4 rfl) ?_
  refine lv_iconst (v := 2) hx hb dL_law_800 (by decide) ?_
  refine lv_iadd hx hb dL_law_801 ?_
  refine k_topi (y := 2) (by decide) ?_
  refine va_sld (xs := xs) hx hb hXs hbl hbA hS (k_in (by decide)) dL_law_802 ?_
  refine k_topi (y := (xs 2)) (congrArg xs (by decide)) ?_
  refine lv_aload_n hx hb dL_law_803 rfl (lv_at hl 0 rfl) ?_
  refine lv_iload hx hb dL_law_804 (lv_at hl 4 rfl) ?_
  refine lv_iconst (v := 3) hx hb dL_law_806 (by decide) ?_
  refine lv_iadd hx hb dL_law_807 ?_
  refine k_topi (y := 3) (by decide) ?_
  refine va_sld (xs := xs) hx hb hXs hbl hbA hS (k_in (by decide)) dL_law_808 ?_
  refine k_topi (y := (xs 3)) (congrArg xs (by decide)) ?_
  refine k_cVi (As := [.int (xs 1), .int (xs 2), .int (xs 3)]) (rest := [.int (-101)]) (wc := [(h1, .inr (12, f3))]) (wr := [(h0, .inr (11, f0)), (h3, .inr (1, f1)), (h4, .inr (2, f2))]) (w1 := [(h1, .inr (12, (f3.set 0 (.int 0))))]) ⟨hx, hb, hml, hown, hts⟩ hN hX hAE hK hP hD hS hA [0] [1, 2, 3] (ci := 12) rfl rfl rfl rfl (by decide +kernel) (by decide +kernel) (by decide +kernel) (c_X12_atom_0 l E D cI cJ cB cZ h1 (xs 1) (xs 2) (xs 3) f3 e5 e6 e7 e3) (cwV 3 hts g9_L_law_X12_atom_130 rfl rfl rfl (by decide +kernel) ⟨Nat.le_of_ble_eq_true rfl, Nat.le_of_ble_eq_true rfl⟩) rfl hl.1 (Nat.le_of_ble_eq_true rfl) dL_law_809 ⟨Nat.le_of_ble_eq_true rfl, Nat.le_of_ble_eq_true rfl⟩ (fun H locs hP hD hS => ?_)
  have hP : va_P D vwCl [(h0, .inr (11, f0)), (h3, .inr (1, f1)), (h4, .inr (2, f2)), (h1, .inr (12, (f3.set 0 (.int 0))))] H := hP
  have hD : va_D A [(h0, .inr (11, f0)), (h3, .inr (1, f1)), (h4, .inr (2, f2)), (h1, .inr (12, (f3.set 0 (.int 0))))] := hD
  refine lv_icmp_eq (tgt := 1765) hx hb dL_law_812 (by decide) (fun _ => ?_) (fun c9 => absurd (by decide) c9)
  refine W.widen (k := 601024) (n := 7293034) (Nat.le_of_ble_eq_true rfl) (Nat.le_of_ble_eq_true rfl) ?_
  exact T9 _ _ _ hS (lv_sub hl [0, 4] rfl)
set_option maxHeartbeats 400000000 in
set_option maxRecDepth 100000 in
theorem law_17_0 {p : Program} {l : Launch} {e : Env} {s : State} {m : MethodId} {below : List Frame} {meth : Method} {c : Code} {b : Nat} {xs : Nat → Int32} (E : kE) (D : va_G) (cI cJ cB cZ : ClassId) (A : Nat → Prop) (Q : State → Prop) (h0 : Nat) (h1 : Nat) (h2 : Nat) (f0 : List Value) (h3 : Nat) (f1 : List Value) (h4 : Nat) (f2 : List Value) (f3 : List Value) (e0 : f0[1]? = some (.ref h3)) (e1 : f1[8]? = some (.int 0)) (e2 : f0[2]? = some (.ref h4)) (e3 : ((xs 1) : Int32) < 0) (e4 : f3[0]? = some (.int 0)) (e5 : f3[5]? = some (.int 0)) (e6 : f3[33]? = some (.int 0)) (X9 : kLaw p l s m c b xs E D cI cJ cB cZ A) (T9 : kTail p l e s m b below meth c A Q) {H : Heap} {locs : List Loc} {ls : Array Slot} (hP : va_P D vwCl [(h0, .inr (11, f0)), (h3, .inr (1, f1)), (h4, .inr (2, f2)), (h1, .inr (12, f3))] H) (hD : va_D A [(h0, .inr (11, f0)), (h3, .inr (1, f1)), (h4, .inr (2, f2)), (h1, .inr (12, f3))]) (hS : va_S A s.heap H locs) (hl : lv_has ls 8 [(0, .ref b), (1, .ref h0), (2, .ref h1), (3, .ref h2), (4, .int 0)]) : W p l e room_1 s m #[Value.ref b] below meth c H locs 218 1205840 Q (F0 m 817 ls []) := by
  obtain ⟨hl9, hx, hb, hml, hown, hts, hN, hX, hAE, hK, hA, hXs, hbl, hbA⟩ := X9
  refine lv_aload_n hx hb dL_law_817 rfl (lv_at hl 1 rfl) ?_
  refine lv_aload_n hx hb dL_law_818 rfl (lv_at hl 0 rfl) ?_
  refine lv_iload hx hb dL_law_819 (lv_at hl 4 rfl) ?_
  refine lv_iconst (v := 1) hx hb dL_law_821 (by decide) ?_
  refine lv_iadd hx hb dL_law_822 ?_
  refine k_topi (y := 1) (by decide) ?_
  refine va_sld (xs := xs) hx hb hXs hbl hbA hS (k_in (by decide)) dL_law_823 ?_
  refine k_topi (y := (xs 1)) (congrArg xs (by decide)) ?_
  refine k_cVi (As := [.int (xs 1)]) (rest := []) (wc := [(h0, .inr (11, f0)), (h3, .inr (1, f1)), (h4, .inr (2, f2))]) (wr := [(h1, .inr (12, f3))]) (w1 := [(h0, .inr (11, f0)), (h3, .inr (1, f1)), (h4, .inr (2, f2))]) ⟨hx, hb, hml, hown, hts⟩ hN hX hAE hK hP hD hS hA [0, 1, 2] [3] (ci := 11) rfl rfl rfl rfl (by decide +kernel) (by decide +kernel) (by decide +kernel) (c_X11_print_1 l E D cI cJ cB cZ h0 (xs 1) f0 h3 f1 h4 f2 e0 e1 e2 e3) (cwV 1 hts g9_L_law_X11_print_131 rfl rfl rfl (by decide +kernel) ⟨Nat.le_of_ble_eq_true rfl, Nat.le_of_ble_eq_true rfl⟩) rfl hl.1 (Nat.le_of_ble_eq_true rfl) dL_law_824 ⟨Nat.le_of_ble_eq_true rfl, Nat.le_of_ble_eq_true rfl⟩ (fun H locs hP hD hS => ?_)
  have hP : va_P D vwCl [(h1, .inr (12, f3)), (h0, .inr (11, f0)), (h3, .inr (1, f1)), (h4, .inr (2, f2))] H := hP
  have hD : va_D A [(h1, .inr (12, f3)), (h0, .inr (11, f0)), (h3, .inr (1, f1)), (h4, .inr (2, f2))] := hD
  refine lv_aload_n hx hb dL_law_827 rfl (lv_at hl 2 rfl) ?_
  refine lv_aload_n hx hb dL_law_828 rfl (lv_at hl 0 rfl) ?_
  refine lv_iload hx hb dL_law_829 (lv_at hl 4 rfl) ?_
  refine lv_iconst (v := 1) hx hb dL_law_831 (by decide) ?_
  refine lv_iadd hx hb dL_law_832 ?_
  refine k_topi (y := 1) (by decide) ?_
  refine va_sld (xs := xs) hx hb hXs hbl hbA hS (k_in (by decide)) dL_law_833 ?_
  refine k_topi (y := (xs 1)) (congrArg xs (by decide)) ?_
  refine k_cVi (As := [.int (xs 1)]) (rest := [.int (-101)]) (wc := [(h1, .inr (12, f3))]) (wr := [(h0, .inr (11, f0)), (h3, .inr (1, f1)), (h4, .inr (2, f2))]) (w1 := [(h1, .inr (12, (f3.set 0 (.int 0))))]) ⟨hx, hb, hml, hown, hts⟩ hN hX hAE hK hP hD hS hA [0] [1, 2, 3] (ci := 12) rfl rfl rfl rfl (by decide +kernel) (by decide +kernel) (by decide +kernel) (c_X12_print_1 l E D cI cJ cB cZ h1 (xs 1) f3 e4 e5 e6 e3) (cwV 1 hts g9_L_law_X12_print_134 rfl rfl rfl (by decide +kernel) ⟨Nat.le_of_ble_eq_true rfl, Nat.le_of_ble_eq_true rfl⟩) rfl hl.1 (Nat.le_of_ble_eq_true rfl) dL_law_834 ⟨Nat.le_of_ble_eq_true rfl, Nat.le_of_ble_eq_true rfl⟩ (fun H locs hP hD hS => ?_)
  have hP : va_P D vwCl [(h0, .inr (11, f0)), (h3, .inr (1, f1)), (h4, .inr (2, f2)), (h1, .inr (12, (f3.set 0 (.int 0))))] H := hP
  have hD : va_D A [(h0, .inr (11, f0)), (h3, .inr (1, f1)), (h4, .inr (2, f2)), (h1, .inr (12, (f3.set 0 (.int 0))))] := hD
  refine lv_icmp_eq (tgt := 1765) hx hb dL_law_837 (by decide) (fun _ => ?_) (fun c9 => absurd (by decide) c9)
  refine W.widen (k := 601024) (n := 7293034) (Nat.le_of_ble_eq_true rfl) (Nat.le_of_ble_eq_true rfl) ?_
  exact T9 _ _ _ hS (lv_sub hl [0, 4] rfl)
set_option maxHeartbeats 400000000 in
set_option maxRecDepth 100000 in
theorem law_17_1 {p : Program} {l : Launch} {e : Env} {s : State} {m : MethodId} {below : List Frame} {meth : Method} {c : Code} {b : Nat} {xs : Nat → Int32} (E : kE) (D : va_G) (cI cJ cB cZ : ClassId) (A : Nat → Prop) (Q : State → Prop) (h0 : Nat) (h1 : Nat) (h2 : Nat) (f0 : List Value) (h3 : Nat) (f1 : List Value) (h4 : Nat) (f2 : List Value) (f3 : List Value) (e0 : f0[1]? = some (.ref h3)) (e1 : f1[8]? = some (.int 0)) (e2 : f0[2]? = some (.ref h4)) (e3 : ¬ (((xs 1) : Int32) < 0)) (e4 : f2[11]? = some (.int 0)) (e5 : f3[0]? = some (.int 0)) (e6 : f3[5]? = some (.int 0)) (e7 : f3[33]? = some (.int 0)) (X9 : kLaw p l s m c b xs E D cI cJ cB cZ A) (T9 : kTail p l e s m b below meth c A Q) {H : Heap} {locs : List Loc} {ls : Array Slot} (hP : va_P D vwCl [(h0, .inr (11, f0)), (h3, .inr (1, f1)), (h4, .inr (2, f2)), (h1, .inr (12, f3))] H) (hD : va_D A [(h0, .inr (11, f0)), (h3, .inr (1, f1)), (h4, .inr (2, f2)), (h1, .inr (12, f3))]) (hS : va_S A s.heap H locs) (hl : lv_has ls 8 [(0, .ref b), (1, .ref h0), (2, .ref h1), (3, .ref h2), (4, .int 0)]) : W p l e room_1 s m #[Value.ref b] below meth c H locs 218 1205840 Q (F0 m 817 ls []) := by
  obtain ⟨hl9, hx, hb, hml, hown, hts, hN, hX, hAE, hK, hA, hXs, hbl, hbA⟩ := X9
  refine lv_aload_n hx hb dL_law_817 rfl (lv_at hl 1 rfl) ?_
  refine lv_aload_n hx hb dL_law_818 rfl (lv_at hl 0 rfl) ?_
  refine lv_iload hx hb dL_law_819 (lv_at hl 4 rfl) ?_
  refine lv_iconst (v := 1) hx hb dL_law_821 (by decide) ?_
  refine lv_iadd hx hb dL_law_822 ?_
  refine k_topi (y := 1) (by decide) ?_
  refine va_sld (xs := xs) hx hb hXs hbl hbA hS (k_in (by decide)) dL_law_823 ?_
  refine k_topi (y := (xs 1)) (congrArg xs (by decide)) ?_
  refine k_cVi (As := [.int (xs 1)]) (rest := []) (wc := [(h0, .inr (11, f0)), (h3, .inr (1, f1)), (h4, .inr (2, f2))]) (wr := [(h1, .inr (12, f3))]) (w1 := [(h0, .inr (11, f0)), (h3, .inr (1, f1)), (h4, .inr (2, f2))]) ⟨hx, hb, hml, hown, hts⟩ hN hX hAE hK hP hD hS hA [0, 1, 2] [3] (ci := 11) rfl rfl rfl rfl (by decide +kernel) (by decide +kernel) (by decide +kernel) (c_X11_print_0 l E D cI cJ cB cZ h0 (xs 1) f0 h3 f1 h4 f2 e0 e1 e2 e3 e4) (cwV 1 hts g9_L_law_X11_print_131 rfl rfl rfl (by decide +kernel) ⟨Nat.le_of_ble_eq_true rfl, Nat.le_of_ble_eq_true rfl⟩) rfl hl.1 (Nat.le_of_ble_eq_true rfl) dL_law_824 ⟨Nat.le_of_ble_eq_true rfl, Nat.le_of_ble_eq_true rfl⟩ (fun H locs hP hD hS => ?_)
  have hP : va_P D vwCl [(h1, .inr (12, f3)), (h0, .inr (11, f0)), (h3, .inr (1, f1)), (h4, .inr (2, f2))] H := hP
  have hD : va_D A [(h1, .inr (12, f3)), (h0, .inr (11, f0)), (h3, .inr (1, f1)), (h4, .inr (2, f2))] := hD
  refine lv_aload_n hx hb dL_law_827 rfl (lv_at hl 2 rfl) ?_
  refine lv_aload_n hx hb dL_law_828 rfl (lv_at hl 0 rfl) ?_
  refine lv_iload hx hb dL_law_829 (lv_at hl 4 rfl) ?_
  refine lv_iconst (v := 1) hx hb dL_law_831 (by decide) ?_
  refine lv_iadd hx hb dL_law_832 ?_
  refine k_topi (y := 1) (by decide) ?_
  refine va_sld (xs := xs) hx hb hXs hbl hbA hS (k_in (by decide)) dL_law_833 ?_
  refine k_topi (y := (xs 1)) (congrArg xs (by decide)) ?_
  refine k_cVi (As := [.int (xs 1)]) (rest := [.int (-101)]) (wc := [(h1, .inr (12, f3))]) (wr := [(h0, .inr (11, f0)), (h3, .inr (1, f1)), (h4, .inr (2, f2))]) (w1 := [(h1, .inr (12, (f3.set 0 (.int 0))))]) ⟨hx, hb, hml, hown, hts⟩ hN hX hAE hK hP hD hS hA [0] [1, 2, 3] (ci := 12) rfl rfl rfl rfl (by decide +kernel) (by decide +kernel) (by decide +kernel) (c_X12_print_0 l E D cI cJ cB cZ h1 (xs 1) f3 e5 e6 e7 e3) (cwV 1 hts g9_L_law_X12_print_134 rfl rfl rfl (by decide +kernel) ⟨Nat.le_of_ble_eq_true rfl, Nat.le_of_ble_eq_true rfl⟩) rfl hl.1 (Nat.le_of_ble_eq_true rfl) dL_law_834 ⟨Nat.le_of_ble_eq_true rfl, Nat.le_of_ble_eq_true rfl⟩ (fun H locs hP hD hS => ?_)
  have hP : va_P D vwCl [(h0, .inr (11, f0)), (h3, .inr (1, f1)), (h4, .inr (2, f2)), (h1, .inr (12, (f3.set 0 (.int 0))))] H := hP
  have hD : va_D A [(h0, .inr (11, f0)), (h3, .inr (1, f1)), (h4, .inr (2, f2)), (h1, .inr (12, (f3.set 0 (.int 0))))] := hD
  refine lv_icmp_eq (tgt := 1765) hx hb dL_law_837 (by decide) (fun _ => ?_) (fun c9 => absurd (by decide) c9)
  refine W.widen (k := 601024) (n := 7293034) (Nat.le_of_ble_eq_true rfl) (Nat.le_of_ble_eq_true rfl) ?_
  exact T9 _ _ _ hS (lv_sub hl [0, 4] rfl)
set_option maxHeartbeats 400000000 in
set_option maxRecDepth 100000 in
theorem law_18_0 {p : Program} {l : Launch} {e : Env} {s : State} {m : MethodId} {below : List Frame} {meth : Method} {c : Code} {b : Nat} {xs : Nat → Int32} (E : kE) (D : va_G) (cI cJ cB cZ : ClassId) (A : Nat → Prop) (Q : State → Prop) (h0 : Nat) (h1 : Nat) (h2 : Nat) (f0 : List Value) (h3 : Nat) (f1 : List Value) (f2 : List Value) (e0 : f0[2]? = some (.ref h3)) (e1 : ((xs 1) : Int32) < 0) (e2 : f2[0]? = some (.int 0)) (e3 : f2[112]? = some (.int 0)) (X9 : kLaw p l s m c b xs E D cI cJ cB cZ A) (T9 : kTail p l e s m b below meth c A Q) {H : Heap} {locs : List Loc} {ls : Array Slot} (hP : va_P D vwCl [(h0, .inr (11, f0)), (h3, .inr (2, f1)), (h1, .inr (12, f2))] H) (hD : va_D A [(h0, .inr (11, f0)), (h3, .inr (2, f1)), (h1, .inr (12, f2))]) (hS : va_S A s.heap H locs) (hl : lv_has ls 8 [(0, .ref b), (1, .ref h0), (2, .ref h1), (3, .ref h2), (4, .int 0)]) : W p l e room_1 s m #[Value.ref b] below meth c H locs 218 1205840 Q (F0 m 842 ls []) := by
  obtain ⟨hl9, hx, hb, hml, hown, hts, hN, hX, hAE, hK, hA, hXs, hbl, hbA⟩ := X9
  refine lv_aload_n hx hb dL_law_842 rfl (lv_at hl 1 rfl) ?_
  refine lv_aload_n hx hb dL_law_843 rfl (lv_at hl 0 rfl) ?_
  refine lv_iload hx hb dL_law_844 (lv_at hl 4 rfl) ?_
  refine lv_iconst (v := 1) hx hb dL_law_846 (by decide) ?_
  refine lv_iadd hx hb dL_law_847 ?_
  refine k_topi (y := 1) (by decide) ?_
  refine va_sld (xs := xs) hx hb hXs hbl hbA hS (k_in (by decide)) dL_law_848 ?_
  refine k_topi (y := (xs 1)) (congrArg xs (by decide)) ?_
  refine k_cVi (As := [.int (xs 1)]) (rest := []) (wc := [(h0, .inr (11, f0)), (h3, .inr (2, f1))]) (wr := [(h1, .inr (12, f2))]) (w1 := [(h0, .inr (11, f0)), (h3, .inr (2, f1))]) ⟨hx, hb, hml, hown, hts⟩ hN hX hAE hK hP hD hS hA [0, 1] [2] (ci := 11) rfl rfl rfl rfl (by decide +kernel) (by decide +kernel) (by decide +kernel) (c_X11_printed_1 l E D cI cJ cB cZ h0 (xs 1) f0 h3 f1 e0 e1) (cwV 1 hts g9_L_law_X11_printed_135 rfl rfl rfl (by decide +kernel) ⟨Nat.le_of_ble_eq_true rfl, Nat.le_of_ble_eq_true rfl⟩) rfl hl.1 (Nat.le_of_ble_eq_true rfl) dL_law_849 ⟨Nat.le_of_ble_eq_true rfl, Nat.le_of_ble_eq_true rfl⟩ (fun H locs hP hD hS => ?_)
  have hP : va_P D vwCl [(h1, .inr (12, f2)), (h0, .inr (11, f0)), (h3, .inr (2, f1))] H := hP
  have hD : va_D A [(h1, .inr (12, f2)), (h0, .inr (11, f0)), (h3, .inr (2, f1))] := hD
  refine lv_aload_n hx hb dL_law_852 rfl (lv_at hl 2 rfl) ?_
  refine lv_aload_n hx hb dL_law_853 rfl (lv_at hl 0 rfl) ?_
  refine lv_iload hx hb dL_law_854 (lv_at hl 4 rfl) ?_
  refine lv_iconst (v := 1) hx hb dL_law_856 (by decide) ?_
  refine lv_iadd hx hb dL_law_857 ?_
  refine k_topi (y := 1) (by decide) ?_
  refine va_sld (xs := xs) hx hb hXs hbl hbA hS (k_in (by decide)) dL_law_858 ?_
  refine k_topi (y := (xs 1)) (congrArg xs (by decide)) ?_
  refine k_cVi (As := [.int (xs 1)]) (rest := [.int (-1)]) (wc := [(h1, .inr (12, f2))]) (wr := [(h0, .inr (11, f0)), (h3, .inr (2, f1))]) (w1 := [(h1, .inr (12, (f2.set 0 (.int 0))))]) ⟨hx, hb, hml, hown, hts⟩ hN hX hAE hK hP hD hS hA [0] [1, 2] (ci := 12) rfl rfl rfl rfl (by decide +kernel) (by decide +kernel) (by decide +kernel) (c_X12_printed_1 l E D cI cJ cB cZ h1 (xs 1) f2 e2 e3 e1) (cwV 1 hts g9_L_law_X12_printed_138 rfl rfl rfl (by decide +kernel) ⟨Nat.le_of_ble_eq_true rfl, Nat.le_of_ble_eq_true rfl⟩) rfl hl.1 (Nat.le_of_ble_eq_true rfl) dL_law_859 ⟨Nat.le_of_ble_eq_true rfl, Nat.le_of_ble_eq_true rfl⟩ (fun H locs hP hD hS => ?_)
  have hP : va_P D vwCl [(h0, .inr (11, f0)), (h3, .inr (2, f1)), (h1, .inr (12, (f2.set 0 (.int 0))))] H := hP
  have hD : va_D A [(h0, .inr (11, f0)), (h3, .inr (2, f1)), (h1, .inr (12, (f2.set 0 (.int 0))))] := hD
  refine lv_icmp_eq (tgt := 1765) hx hb dL_law_862 (by decide) (fun _ => ?_) (fun c9 => absurd (by decide) c9)
  refine W.widen (k := 601024) (n := 7293034) (Nat.le_of_ble_eq_true rfl) (Nat.le_of_ble_eq_true rfl) ?_
  exact T9 _ _ _ hS (lv_sub hl [0, 4] rfl)
set_option maxHeartbeats 400000000 in
set_option maxRecDepth 100000 in
theorem law_18_1 {p : Program} {l : Launch} {e : Env} {s : State} {m : MethodId} {below : List Frame} {meth : Method} {c : Code} {b : Nat} {xs : Nat → Int32} (E : kE) (D : va_G) (cI cJ cB cZ : ClassId) (A : Nat → Prop) (Q : State → Prop) (h0 : Nat) (h1 : Nat) (h2 : Nat) (f0 : List Value) (h3 : Nat) (f1 : List Value) (f2 : List Value) (e0 : f0[2]? = some (.ref h3)) (e1 : f1[15]? = some (.int 0)) (e2 : ¬ (((xs 1) : Int32) < 0)) (e3 : f2[0]? = some (.int 0)) (e4 : f2[112]? = some (.int 0)) (X9 : kLaw p l s m c b xs E D cI cJ cB cZ A) (T9 : kTail p l e s m b below meth c A Q) {H : Heap} {locs : List Loc} {ls : Array Slot} (hP : va_P D vwCl [(h0, .inr (11, f0)), (h3, .inr (2, f1)), (h1, .inr (12, f2))] H) (hD : va_D A [(h0, .inr (11, f0)), (h3, .inr (2, f1)), (h1, .inr (12, f2))]) (hS : va_S A s.heap H locs) (hl : lv_has ls 8 [(0, .ref b), (1, .ref h0), (2, .ref h1), (3, .ref h2), (4, .int 0)]) : W p l e room_1 s m #[Value.ref b] below meth c H locs 218 1205840 Q (F0 m 842 ls []) := by
  obtain ⟨hl9, hx, hb, hml, hown, hts, hN, hX, hAE, hK, hA, hXs, hbl, hbA⟩ := X9
  refine lv_aload_n hx hb dL_law_842 rfl (lv_at hl 1 rfl) ?_
  refine lv_aload_n hx hb dL_law_843 rfl (lv_at hl 0 rfl) ?_
  refine lv_iload hx hb dL_law_844 (lv_at hl 4 rfl) ?_
  refine lv_iconst (v := 1) hx hb dL_law_846 (by decide) ?_
  refine lv_iadd hx hb dL_law_847 ?_
  refine k_topi (y := 1) (by decide) ?_
  refine va_sld (xs := xs) hx hb hXs hbl hbA hS (k_in (by decide)) dL_law_848 ?_
  refine k_topi (y := (xs 1)) (congrArg xs (by decide)) ?_
  refine k_cVi (As := [.int (xs 1)]) (rest := []) (wc := [(h0, .inr (11, f0)), (h3, .inr (2, f1))]) (wr := [(h1, .inr (12, f2))]) (w1 := [(h0, .inr (11, f0)), (h3, .inr (2, f1))]) ⟨hx, hb, hml, hown, hts⟩ hN hX hAE hK hP hD hS hA [0, 1] [2] (ci := 11) rfl rfl rfl rfl (by decide +kernel) (by decide +kernel) (by decide +kernel) (c_X11_printed_0 l E D cI cJ cB cZ h0 (xs 1) f0 h3 f1 e0 e1 e2) (cwV 1 hts g9_L_law_X11_printed_135 rfl rfl rfl (by decide +kernel) ⟨Nat.le_of_ble_eq_true rfl, Nat.le_of_ble_eq_true rfl⟩) rfl hl.1 (Nat.le_of_ble_eq_true rfl) dL_law_849 ⟨Nat.le_of_ble_eq_true rfl, Nat.le_of_ble_eq_true rfl⟩ (fun H locs hP hD hS => ?_)
  have hP : va_P D vwCl [(h1, .inr (12, f2)), (h0, .inr (11, f0)), (h3, .inr (2, f1))] H := hP
  have hD : va_D A [(h1, .inr (12, f2)), (h0, .inr (11, f0)), (h3, .inr (2, f1))] := hD
  refine lv_aload_n hx hb dL_law_852 rfl (lv_at hl 2 rfl) ?_
  refine lv_aload_n hx hb dL_law_853 rfl (lv_at hl 0 rfl) ?_
  refine lv_iload hx hb dL_law_854 (lv_at hl 4 rfl) ?_
  refine lv_iconst (v := 1) hx hb dL_law_856 (by decide) ?_
  refine lv_iadd hx hb dL_law_857 ?_
  refine k_topi (y := 1) (by decide) ?_
  refine va_sld (xs := xs) hx hb hXs hbl hbA hS (k_in (by decide)) dL_law_858 ?_
  refine k_topi (y := (xs 1)) (congrArg xs (by decide)) ?_
  refine k_cVi (As := [.int (xs 1)]) (rest := [.int (-1)]) (wc := [(h1, .inr (12, f2))]) (wr := [(h0, .inr (11, f0)), (h3, .inr (2, f1))]) (w1 := [(h1, .inr (12, (f2.set 0 (.int 0))))]) ⟨hx, hb, hml, hown, hts⟩ hN hX hAE hK hP hD hS hA [0] [1, 2] (ci := 12) rfl rfl rfl rfl (by decide +kernel) (by decide +kernel) (by decide +kernel) (c_X12_printed_0 l E D cI cJ cB cZ h1 (xs 1) f2 e3 e4 e2) (cwV 1 hts g9_L_law_X12_printed_138 rfl rfl rfl (by decide +kernel) ⟨Nat.le_of_ble_eq_true rfl, Nat.le_of_ble_eq_true rfl⟩) rfl hl.1 (Nat.le_of_ble_eq_true rfl) dL_law_859 ⟨Nat.le_of_ble_eq_true rfl, Nat.le_of_ble_eq_true rfl⟩ (fun H locs hP hD hS => ?_)
  have hP : va_P D vwCl [(h0, .inr (11, f0)), (h3, .inr (2, f1)), (h1, .inr (12, (f2.set 0 (.int 0))))] H := hP
  have hD : va_D A [(h0, .inr (11, f0)), (h3, .inr (2, f1)), (h1, .inr (12, (f2.set 0 (.int 0))))] := hD
  refine lv_icmp_eq (tgt := 1765) hx hb dL_law_862 (by decide) (fun _ => ?_) (fun c9 => absurd (by decide) c9)
  refine W.widen (k := 601024) (n := 7293034) (Nat.le_of_ble_eq_true rfl) (Nat.le_of_ble_eq_true rfl) ?_
  exact T9 _ _ _ hS (lv_sub hl [0, 4] rfl)
set_option maxHeartbeats 400000000 in
set_option maxRecDepth 100000 in
theorem law_19_0 {p : Program} {l : Launch} {e : Env} {s : State} {m : MethodId} {below : List Frame} {meth : Method} {c : Code} {b : Nat} {xs : Nat → Int32} (E : kE) (D : va_G) (cI cJ cB cZ : ClassId) (A : Nat → Prop) (Q : State → Prop) (h0 : Nat) (h1 : Nat) (h2 : Nat) (f0 : List Value) (h3 : Nat) (f1 : List Value) (h4 : Nat) (f2 : List Value) (f3 : List Value) (e0 : f0[1]? = some (.ref h3)) (e1 : f1[8]? = some (.int 0)) (e2 : f0[2]? = some (.ref h4)) (e3 : ((xs 1) : Int32) < 0) (e4 : f3[0]? = some (.int 0)) (e5 : f3[5]? = some (.int 0)) (e6 : f3[33]? = some (.int 0)) (X9 : kLaw p l s m c b xs E D cI cJ cB cZ A) (T9 : kTail p l e s m b below meth c A Q) {H : Heap} {locs : List Loc} {ls : Array Slot} (hP : va_P D vwCl [(h0, .inr (11, f0)), (h3, .inr (1, f1)), (h4, .inr (2, f2)), (h1, .inr (12, f3))] H) (hD : va_D A [(h0, .inr (11, f0)), (h3, .inr (1, f1)), (h4, .inr (2, f2)), (h1, .inr (12, f3))]) (hS : va_S A s.heap H locs) (hl : lv_has ls 8 [(0, .ref b), (1, .ref h0), (2, .ref h1), (3, .ref h2), (4, .int 0)]) : W p l e room_1 s m #[Value.ref b] below meth c H locs 218 1205840 Q (F0 m 867 ls []) := by
  obtain ⟨hl9, hx, hb, hml, hown, hts, hN, hX, hAE, hK, hA, hXs, hbl, hbA⟩ := X9
  refine lv_aload_n hx hb dL_law_867 rfl (lv_at hl 1 rfl) ?_
  refine lv_aload_n hx hb dL_law_868 rfl (lv_at hl 0 rfl) ?_
  refine lv_iload hx hb dL_law_869 (lv_at hl 4 rfl) ?_
  refine lv_iconst (v := 1) hx hb dL_law_871 (by decide) ?_
  refine lv_iadd hx hb dL_law_872 ?_
  refine k_topi (y := 1) (by decide) ?_
  refine va_sld (xs := xs) hx hb hXs hbl hbA hS (k_in (by decide)) dL_law_873 ?_
  refine k_topi (y := (xs 1)) (congrArg xs (by decide)) ?_
  refine lv_aload_n hx hb dL_law_874 rfl (lv_at hl 0 rfl) ?_
  refine lv_iload hx hb dL_law_875 (lv_at hl 4 rfl) ?_
  refine lv_iconst (v := 2) hx hb dL_law_877 (by decide) ?_
  refine lv_iadd hx hb dL_law_878 ?_
  refine k_topi (y := 2) (by decide) ?_
  refine va_sld (xs := xs) hx hb hXs hbl hbA hS (k_in (by decide)) dL_law_879 ?_
  refine k_topi (y := (xs 2)) (congrArg xs (by decide)) ?_
  refine lv_i2l (v := (Int32.toInt64 (xs 2))) hx hb dL_law_880 rfl ?_
  refine lv_bipush (v := 32) hx hb dL_law_881 (by decide) ?_
  refine lv_lshl (v := ((Int32.toInt64 (xs 2)) <<< (Int32.toInt64 32 &&& 63))) hx hb dL_law_883 rfl ?_
  refine lv_aload_n hx hb dL_law_884 rfl (lv_at hl 0 rfl) ?_
  refine lv_iload hx hb dL_law_885 (lv_at hl 4 rfl) ?_
  refine lv_iconst (v := 3) hx hb dL_law_887 (by decide) ?_
  refine lv_iadd hx hb dL_law_888 ?_
  refine k_topi (y := 3) (by decide) ?_
  refine va_sld (xs := xs) hx hb hXs hbl hbA hS (k_in (by decide)) dL_law_889 ?_
  refine k_topi (y := (xs 3)) (congrArg xs (by decide)) ?_
  refine lv_i2l (v := (Int32.toInt64 (xs 3))) hx hb dL_law_890 rfl ?_
  refine lv_ldc2 (own := RL) (index := 139) (v := 4294967295) hx hb hown (hts (.constantLong RL 139 (4294967295)) (o9_L_law _ (List.mem_of_getElem? (i := 121) rfl))) dL_law_891 ?_
  refine lv_land hx hb dL_law_894 ?_
  refine lv_lor hx hb dL_law_895 ?_
  refine lv_aload_n hx hb dL_law_896 rfl (lv_at hl 0 rfl) ?_
  refine lv_iload hx hb dL_law_897 (lv_at hl 4 rfl) ?_
  refine lv_iconst (v := 4) hx hb dL_law_899 (by decide) ?_
  refine lv_iadd hx hb dL_law_900 ?_
  refine k_topi (y := 4) (by decide) ?_
  refine va_sld (xs := xs) hx hb hXs hbl hbA hS (k_in (by decide)) dL_law_901 ?_
  refine k_topi (y := (xs 4)) (congrArg xs (by decide)) ?_
  refine lv_i2l (v := (Int32.toInt64 (xs 4))) hx hb dL_law_902 rfl ?_
  refine lv_bipush (v := 32) hx hb dL_law_903 (by decide) ?_
  refine lv_lshl (v := ((Int32.toInt64 (xs 4)) <<< (Int32.toInt64 32 &&& 63))) hx hb dL_law_905 rfl ?_
  refine lv_aload_n hx hb dL_law_906 rfl (lv_at hl 0 rfl) ?_
  refine lv_iload hx hb dL_law_907 (lv_at hl 4 rfl) ?_
  refine lv_iconst (v := 5) hx hb dL_law_909 (by decide) ?_
  refine lv_iadd hx hb dL_law_910 ?_
  refine k_topi (y := 5) (by decide) ?_
  refine va_sld (xs := xs) hx hb hXs hbl hbA hS (k_in (by decide)) dL_law_911 ?_
  refine k_topi (y := (xs 5)) (congrArg xs (by decide)) ?_
  refine lv_i2l (v := (Int32.toInt64 (xs 5))) hx hb dL_law_912 rfl ?_
  refine lv_ldc2 (own := RL) (index := 139) (v := 4294967295) hx hb hown (hts (.constantLong RL 139 (4294967295)) (o9_L_law _ (List.mem_of_getElem? (i := 121) rfl))) dL_law_913 ?_
  refine lv_land hx hb dL_law_916 ?_
  refine lv_lor hx hb dL_law_917 ?_
  refine lv_aload_n hx hb dL_law_918 rfl (lv_at hl 0 rfl) ?_
  refine lv_iload hx hb dL_law_919 (lv_at hl 4 rfl) ?_
  refine lv_bipush (v := 6) hx hb dL_law_921 (by decide) ?_
  refine lv_iadd hx hb dL_law_923 ?_
  refine k_topi (y := 6) (by decide) ?_
  refine va_sld (xs := xs) hx hb hXs hbl hbA hS (k_in (by decide)) dL_law_924 ?_
  refine k_topi (y := (xs 6)) (congrArg xs (by decide)) ?_
  refine lv_i2l (v := (Int32.toInt64 (xs 6))) hx hb dL_law_925 rfl ?_
  refine lv_bipush (v := 32) hx hb dL_law_926 (by decide) ?_
  refine lv_lshl (v := ((Int32.toInt64 (xs 6)) <<< (Int32.toInt64 32 &&& 63))) hx hb dL_law_928 rfl ?_
  refine lv_aload_n hx hb dL_law_929 rfl (lv_at hl 0 rfl) ?_
  refine lv_iload hx hb dL_law_930 (lv_at hl 4 rfl) ?_
  refine lv_bipush (v := 7) hx hb dL_law_932 (by decide) ?_
  refine lv_iadd hx hb dL_law_934 ?_
  refine k_topi (y := 7) (by decide) ?_
  refine va_sld (xs := xs) hx hb hXs hbl hbA hS (k_in (by decide)) dL_law_935 ?_
  refine k_topi (y := (xs 7)) (congrArg xs (by decide)) ?_
  refine lv_i2l (v := (Int32.toInt64 (xs 7))) hx hb dL_law_936 rfl ?_
  refine lv_ldc2 (own := RL) (index := 139) (v := 4294967295) hx hb hown (hts (.constantLong RL 139 (4294967295)) (o9_L_law _ (List.mem_of_getElem? (i := 121) rfl))) dL_law_937 ?_
  refine lv_land hx hb dL_law_940 ?_
  refine lv_lor hx hb dL_law_941 ?_
  refine lv_aload_n hx hb dL_law_942 rfl (lv_at hl 0 rfl) ?_
  refine lv_iload hx hb dL_law_943 (lv_at hl 4 rfl) ?_
  refine lv_bipush (v := 8) hx hb dL_law_945 (by decide) ?_
  refine lv_iadd hx hb dL_law_947 ?_
  refine k_topi (y := 8) (by decide) ?_
  refine va_sld (xs := xs) hx hb hXs hbl hbA hS (k_in (by decide)) dL_law_948 ?_
  refine k_topi (y := (xs 8)) (congrArg xs (by decide)) ?_
  refine lv_i2l (v := (Int32.toInt64 (xs 8))) hx hb dL_law_949 rfl ?_
  refine lv_bipush (v := 32) hx hb dL_law_950 (by decide) ?_
  refine lv_lshl (v := ((Int32.toInt64 (xs 8)) <<< (Int32.toInt64 32 &&& 63))) hx hb dL_law_952 rfl ?_
  refine lv_aload_n hx hb dL_law_953 rfl (lv_at hl 0 rfl) ?_
  refine lv_iload hx hb dL_law_954 (lv_at hl 4 rfl) ?_
  refine lv_bipush (v := 9) hx hb dL_law_956 (by decide) ?_
  refine lv_iadd hx hb dL_law_958 ?_
  refine k_topi (y := 9) (by decide) ?_
  refine va_sld (xs := xs) hx hb hXs hbl hbA hS (k_in (by decide)) dL_law_959 ?_
  refine k_topi (y := (xs 9)) (congrArg xs (by decide)) ?_
  refine lv_i2l (v := (Int32.toInt64 (xs 9))) hx hb dL_law_960 rfl ?_
  refine lv_ldc2 (own := RL) (index := 139) (v := 4294967295) hx hb hown (hts (.constantLong RL 139 (4294967295)) (o9_L_law _ (List.mem_of_getElem? (i := 121) rfl))) dL_law_961 ?_
  refine lv_land hx hb dL_law_964 ?_
  refine lv_lor hx hb dL_law_965 ?_
  refine k_cVi (As := [.int (xs 1), .long (((Int32.toInt64 (xs 2)) <<< (Int32.toInt64 32 &&& 63)) ||| ((Int32.toInt64 (xs 3)) &&& 4294967295)), .long (((Int32.toInt64 (xs 4)) <<< (Int32.toInt64 32 &&& 63)) ||| ((Int32.toInt64 (xs 5)) &&& 4294967295)), .long (((Int32.toInt64 (xs 6)) <<< (Int32.toInt64 32 &&& 63)) ||| ((Int32.toInt64 (xs 7)) &&& 4294967295)), .long (((Int32.toInt64 (xs 8)) <<< (Int32.toInt64 32 &&& 63)) ||| ((Int32.toInt64 (xs 9)) &&& 4294967295))]) (rest := []) (wc := [(h0, .inr (11, f0)), (h3, .inr (1, f1)), (h4, .inr (2, f2))]) (wr := [(h1, .inr (12, f3))]) (w1 := [(h0, .inr (11, f0)), (h3, .inr (1, f1)), (h4, .inr (2, f2))]) ⟨hx, hb, hml, hown, hts⟩ hN hX hAE hK hP hD hS hA [0, 1, 2] [3] (ci := 11) rfl rfl rfl rfl (by decide +kernel) (by decide +kernel) (by decide +kernel) (c_X11_holds_1 l E D cI cJ cB cZ h0 (xs 1) (((Int32.toInt64 (xs 2)) <<< (Int32.toInt64 32 &&& 63)) ||| ((Int32.toInt64 (xs 3)) &&& 4294967295)) (((Int32.toInt64 (xs 4)) <<< (Int32.toInt64 32 &&& 63)) ||| ((Int32.toInt64 (xs 5)) &&& 4294967295)) (((Int32.toInt64 (xs 6)) <<< (Int32.toInt64 32 &&& 63)) ||| ((Int32.toInt64 (xs 7)) &&& 4294967295)) (((Int32.toInt64 (xs 8)) <<< (Int32.toInt64 32 &&& 63)) ||| ((Int32.toInt64 (xs 9)) &&& 4294967295)) f0 h3 f1 h4 f2 e0 e1 e2 e3) (cwV 5 hts g9_L_law_X11_holds_141 rfl rfl rfl (by decide +kernel) ⟨Nat.le_of_ble_eq_true rfl, Nat.le_of_ble_eq_true rfl⟩) rfl hl.1 (Nat.le_of_ble_eq_true rfl) dL_law_966 ⟨Nat.le_of_ble_eq_true rfl, Nat.le_of_ble_eq_true rfl⟩ (fun H locs hP hD hS => ?_)
  have hP : va_P D vwCl [(h1, .inr (12, f3)), (h0, .inr (11, f0)), (h3, .inr (1, f1)), (h4, .inr (2, f2))] H := hP
  have hD : va_D A [(h1, .inr (12, f3)), (h0, .inr (11, f0)), (h3, .inr (1, f1)), (h4, .inr (2, f2))] := hD
  refine lv_aload_n hx hb dL_law_969 rfl (lv_at hl 2 rfl) ?_
  refine lv_aload_n hx hb dL_law_970 rfl (lv_at hl 0 rfl) ?_
  refine lv_iload hx hb dL_law_971 (lv_at hl 4 rfl) ?_
  refine lv_iconst (v := 1) hx hb dL_law_973 (by decide) ?_
  refine lv_iadd hx hb dL_law_974 ?_
  refine k_topi (y := 1) (by decide) ?_
  refine va_sld (xs := xs) hx hb hXs hbl hbA hS (k_in (by decide)) dL_law_975 ?_
  refine k_topi (y := (xs 1)) (congrArg xs (by decide)) ?_
  refine lv_aload_n hx hb dL_law_976 rfl (lv_at hl 0 rfl) ?_
  refine lv_iload hx hb dL_law_977 (lv_at hl 4 rfl) ?_
  refine lv_iconst (v := 2) hx hb dL_law_979 (by decide) ?_
  refine lv_iadd hx hb dL_law_980 ?_
  refine k_topi (y := 2) (by decide) ?_
  refine va_sld (xs := xs) hx hb hXs hbl hbA hS (k_in (by decide)) dL_law_981 ?_
  refine k_topi (y := (xs 2)) (congrArg xs (by decide)) ?_
  refine lv_i2l (v := (Int32.toInt64 (xs 2))) hx hb dL_law_982 rfl ?_
  refine lv_bipush (v := 32) hx hb dL_law_983 (by decide) ?_
  refine lv_lshl (v := ((Int32.toInt64 (xs 2)) <<< (Int32.toInt64 32 &&& 63))) hx hb dL_law_985 rfl ?_
  refine lv_aload_n hx hb dL_law_986 rfl (lv_at hl 0 rfl) ?_
  refine lv_iload hx hb dL_law_987 (lv_at hl 4 rfl) ?_
  refine lv_iconst (v := 3) hx hb dL_law_989 (by decide) ?_
  refine lv_iadd hx hb dL_law_990 ?_
  refine k_topi (y := 3) (by decide) ?_
  refine va_sld (xs := xs) hx hb hXs hbl hbA hS (k_in (by decide)) dL_law_991 ?_
  refine k_topi (y := (xs 3)) (congrArg xs (by decide)) ?_
  refine lv_i2l (v := (Int32.toInt64 (xs 3))) hx hb dL_law_992 rfl ?_
  refine lv_ldc2 (own := RL) (index := 139) (v := 4294967295) hx hb hown (hts (.constantLong RL 139 (4294967295)) (o9_L_law _ (List.mem_of_getElem? (i := 121) rfl))) dL_law_993 ?_
  refine lv_land hx hb dL_law_996 ?_
  refine lv_lor hx hb dL_law_997 ?_
  refine lv_aload_n hx hb dL_law_998 rfl (lv_at hl 0 rfl) ?_
  refine lv_iload hx hb dL_law_999 (lv_at hl 4 rfl) ?_
  refine lv_iconst (v := 4) hx hb dL_law_1001 (by decide) ?_
  refine lv_iadd hx hb dL_law_1002 ?_
  refine k_topi (y := 4) (by decide) ?_
  refine va_sld (xs := xs) hx hb hXs hbl hbA hS (k_in (by decide)) dL_law_1003 ?_
  refine k_topi (y := (xs 4)) (congrArg xs (by decide)) ?_
  refine lv_i2l (v := (Int32.toInt64 (xs 4))) hx hb dL_law_1004 rfl ?_
  refine lv_bipush (v := 32) hx hb dL_law_1005 (by decide) ?_
  refine lv_lshl (v := ((Int32.toInt64 (xs 4)) <<< (Int32.toInt64 32 &&& 63))) hx hb dL_law_1007 rfl ?_
  refine lv_aload_n hx hb dL_law_1008 rfl (lv_at hl 0 rfl) ?_
  refine lv_iload hx hb dL_law_1009 (lv_at hl 4 rfl) ?_
  refine lv_iconst (v := 5) hx hb dL_law_1011 (by decide) ?_
  refine lv_iadd hx hb dL_law_1012 ?_
  refine k_topi (y := 5) (by decide) ?_
  refine va_sld (xs := xs) hx hb hXs hbl hbA hS (k_in (by decide)) dL_law_1013 ?_
  refine k_topi (y := (xs 5)) (congrArg xs (by decide)) ?_
  refine lv_i2l (v := (Int32.toInt64 (xs 5))) hx hb dL_law_1014 rfl ?_
  refine lv_ldc2 (own := RL) (index := 139) (v := 4294967295) hx hb hown (hts (.constantLong RL 139 (4294967295)) (o9_L_law _ (List.mem_of_getElem? (i := 121) rfl))) dL_law_1015 ?_
  refine lv_land hx hb dL_law_1018 ?_
  refine lv_lor hx hb dL_law_1019 ?_
  refine lv_aload_n hx hb dL_law_1020 rfl (lv_at hl 0 rfl) ?_
  refine lv_iload hx hb dL_law_1021 (lv_at hl 4 rfl) ?_
  refine lv_bipush (v := 6) hx hb dL_law_1023 (by decide) ?_
  refine lv_iadd hx hb dL_law_1025 ?_
  refine k_topi (y := 6) (by decide) ?_
  refine va_sld (xs := xs) hx hb hXs hbl hbA hS (k_in (by decide)) dL_law_1026 ?_
  refine k_topi (y := (xs 6)) (congrArg xs (by decide)) ?_
  refine lv_i2l (v := (Int32.toInt64 (xs 6))) hx hb dL_law_1027 rfl ?_
  refine lv_bipush (v := 32) hx hb dL_law_1028 (by decide) ?_
  refine lv_lshl (v := ((Int32.toInt64 (xs 6)) <<< (Int32.toInt64 32 &&& 63))) hx hb dL_law_1030 rfl ?_
  refine lv_aload_n hx hb dL_law_1031 rfl (lv_at hl 0 rfl) ?_
  refine lv_iload hx hb dL_law_1032 (lv_at hl 4 rfl) ?_
  refine lv_bipush (v := 7) hx hb dL_law_1034 (by decide) ?_
  refine lv_iadd hx hb dL_law_1036 ?_
  refine k_topi (y := 7) (by decide) ?_
  refine va_sld (xs := xs) hx hb hXs hbl hbA hS (k_in (by decide)) dL_law_1037 ?_
  refine k_topi (y := (xs 7)) (congrArg xs (by decide)) ?_
  refine lv_i2l (v := (Int32.toInt64 (xs 7))) hx hb dL_law_1038 rfl ?_
  refine lv_ldc2 (own := RL) (index := 139) (v := 4294967295) hx hb hown (hts (.constantLong RL 139 (4294967295)) (o9_L_law _ (List.mem_of_getElem? (i := 121) rfl))) dL_law_1039 ?_
  refine lv_land hx hb dL_law_1042 ?_
  refine lv_lor hx hb dL_law_1043 ?_
  refine lv_aload_n hx hb dL_law_1044 rfl (lv_at hl 0 rfl) ?_
  refine lv_iload hx hb dL_law_1045 (lv_at hl 4 rfl) ?_
  refine lv_bipush (v := 8) hx hb dL_law_1047 (by decide) ?_
  refine lv_iadd hx hb dL_law_1049 ?_
  refine k_topi (y := 8) (by decide) ?_
  refine va_sld (xs := xs) hx hb hXs hbl hbA hS (k_in (by decide)) dL_law_1050 ?_
  refine k_topi (y := (xs 8)) (congrArg xs (by decide)) ?_
  refine lv_i2l (v := (Int32.toInt64 (xs 8))) hx hb dL_law_1051 rfl ?_
  refine lv_bipush (v := 32) hx hb dL_law_1052 (by decide) ?_
  refine lv_lshl (v := ((Int32.toInt64 (xs 8)) <<< (Int32.toInt64 32 &&& 63))) hx hb dL_law_1054 rfl ?_
  refine lv_aload_n hx hb dL_law_1055 rfl (lv_at hl 0 rfl) ?_
  refine lv_iload hx hb dL_law_1056 (lv_at hl 4 rfl) ?_
  refine lv_bipush (v := 9) hx hb dL_law_1058 (by decide) ?_
  refine lv_iadd hx hb dL_law_1060 ?_
  refine k_topi (y := 9) (by decide) ?_
  refine va_sld (xs := xs) hx hb hXs hbl hbA hS (k_in (by decide)) dL_law_1061 ?_
  refine k_topi (y := (xs 9)) (congrArg xs (by decide)) ?_
  refine lv_i2l (v := (Int32.toInt64 (xs 9))) hx hb dL_law_1062 rfl ?_
  refine lv_ldc2 (own := RL) (index := 139) (v := 4294967295) hx hb hown (hts (.constantLong RL 139 (4294967295)) (o9_L_law _ (List.mem_of_getElem? (i := 121) rfl))) dL_law_1063 ?_
  refine lv_land hx hb dL_law_1066 ?_
  refine lv_lor hx hb dL_law_1067 ?_
  refine k_cVi (As := [.int (xs 1), .long (((Int32.toInt64 (xs 2)) <<< (Int32.toInt64 32 &&& 63)) ||| ((Int32.toInt64 (xs 3)) &&& 4294967295)), .long (((Int32.toInt64 (xs 4)) <<< (Int32.toInt64 32 &&& 63)) ||| ((Int32.toInt64 (xs 5)) &&& 4294967295)), .long (((Int32.toInt64 (xs 6)) <<< (Int32.toInt64 32 &&& 63)) ||| ((Int32.toInt64 (xs 7)) &&& 4294967295)), .long (((Int32.toInt64 (xs 8)) <<< (Int32.toInt64 32 &&& 63)) ||| ((Int32.toInt64 (xs 9)) &&& 4294967295))]) (rest := [.int (-101)]) (wc := [(h1, .inr (12, f3))]) (wr := [(h0, .inr (11, f0)), (h3, .inr (1, f1)), (h4, .inr (2, f2))]) (w1 := [(h1, .inr (12, (f3.set 0 (.int 0))))]) ⟨hx, hb, hml, hown, hts⟩ hN hX hAE hK hP hD hS hA [0] [1, 2, 3] (ci := 12) rfl rfl rfl rfl (by decide +kernel) (by decide +kernel) (by decide +kernel) (c_X12_holds_1 l E D cI cJ cB cZ h1 (xs 1) (((Int32.toInt64 (xs 2)) <<< (Int32.toInt64 32 &&& 63)) ||| ((Int32.toInt64 (xs 3)) &&& 4294967295)) (((Int32.toInt64 (xs 4)) <<< (Int32.toInt64 32 &&& 63)) ||| ((Int32.toInt64 (xs 5)) &&& 4294967295)) (((Int32.toInt64 (xs 6)) <<< (Int32.toInt64 32 &&& 63)) ||| ((Int32.toInt64 (xs 7)) &&& 4294967295)) (((Int32.toInt64 (xs 8)) <<< (Int32.toInt64 32 &&& 63)) ||| ((Int32.toInt64 (xs 9)) &&& 4294967295)) f3 e4 e5 e6 e3) (cwV 5 hts g9_L_law_X12_holds_145 rfl rfl rfl (by decide +kernel) ⟨Nat.le_of_ble_eq_true rfl, Nat.le_of_ble_eq_true rfl⟩) rfl hl.1 (Nat.le_of_ble_eq_true rfl) dL_law_1068 ⟨Nat.le_of_ble_eq_true rfl, Nat.le_of_ble_eq_true rfl⟩ (fun H locs hP hD hS => ?_)
  have hP : va_P D vwCl [(h0, .inr (11, f0)), (h3, .inr (1, f1)), (h4, .inr (2, f2)), (h1, .inr (12, (f3.set 0 (.int 0))))] H := hP
  have hD : va_D A [(h0, .inr (11, f0)), (h3, .inr (1, f1)), (h4, .inr (2, f2)), (h1, .inr (12, (f3.set 0 (.int 0))))] := hD
  refine lv_icmp_eq (tgt := 1765) hx hb dL_law_1071 (by decide) (fun _ => ?_) (fun c9 => absurd (by decide) c9)
  refine W.widen (k := 601024) (n := 7293034) (Nat.le_of_ble_eq_true rfl) (Nat.le_of_ble_eq_true rfl) ?_
  exact T9 _ _ _ hS (lv_sub hl [0, 4] rfl)
set_option maxHeartbeats 400000000 in
set_option maxRecDepth 100000 in
theorem law_19_1 {p : Program} {l : Launch} {e : Env} {s : State} {m : MethodId} {below : List Frame} {meth : Method} {c : Code} {b : Nat} {xs : Nat → Int32} (E : kE) (D : va_G) (cI cJ cB cZ : ClassId) (A : Nat → Prop) (Q : State → Prop) (h0 : Nat) (h1 : Nat) (h2 : Nat) (f0 : List Value) (h3 : Nat) (f1 : List Value) (h4 : Nat) (f2 : List Value) (f3 : List Value) (e0 : f0[1]? = some (.ref h3)) (e1 : f1[8]? = some (.int 0)) (e2 : f0[2]? = some (.ref h4)) (e3 : ¬ (((xs 1) : Int32) < 0)) (e4 : f2[11]? = some (.int 0)) (e5 : f3[0]? = some (.int 0)) (e6 : f3[5]? = some (.int 0)) (e7 : f3[33]? = some (.int 0)) (X9 : kLaw p l s m c b xs E D cI cJ cB cZ A) (T9 : kTail p l e s m b below meth c A Q) {H : Heap} {locs : List Loc} {ls : Array Slot} (hP : va_P D vwCl [(h0, .inr (11, f0)), (h3, .inr (1, f1)), (h4, .inr (2, f2)), (h1, .inr (12, f3))] H) (hD : va_D A [(h0, .inr (11, f0)), (h3, .inr (1, f1)), (h4, .inr (2, f2)), (h1, .inr (12, f3))]) (hS : va_S A s.heap H locs) (hl : lv_has ls 8 [(0, .ref b), (1, .ref h0), (2, .ref h1), (3, .ref h2), (4, .int 0)]) : W p l e room_1 s m #[Value.ref b] below meth c H locs 218 1205840 Q (F0 m 867 ls []) := by
  obtain ⟨hl9, hx, hb, hml, hown, hts, hN, hX, hAE, hK, hA, hXs, hbl, hbA⟩ := X9
  refine lv_aload_n hx hb dL_law_867 rfl (lv_at hl 1 rfl) ?_
  refine lv_aload_n hx hb dL_law_868 rfl (lv_at hl 0 rfl) ?_
  refine lv_iload hx hb dL_law_869 (lv_at hl 4 rfl) ?_
  refine lv_iconst (v := 1) hx hb dL_law_871 (by decide) ?_
  refine lv_iadd hx hb dL_law_872 ?_
  refine k_topi (y := 1) (by decide) ?_
  refine va_sld (xs := xs) hx hb hXs hbl hbA hS (k_in (by decide)) dL_law_873 ?_
  refine k_topi (y := (xs 1)) (congrArg xs (by decide)) ?_
  refine lv_aload_n hx hb dL_law_874 rfl (lv_at hl 0 rfl) ?_
  refine lv_iload hx hb dL_law_875 (lv_at hl 4 rfl) ?_
  refine lv_iconst (v := 2) hx hb dL_law_877 (by decide) ?_
  refine lv_iadd hx hb dL_law_878 ?_
  refine k_topi (y := 2) (by decide) ?_
  refine va_sld (xs := xs) hx hb hXs hbl hbA hS (k_in (by decide)) dL_law_879 ?_
  refine k_topi (y := (xs 2)) (congrArg xs (by decide)) ?_
  refine lv_i2l (v := (Int32.toInt64 (xs 2))) hx hb dL_law_880 rfl ?_
  refine lv_bipush (v := 32) hx hb dL_law_881 (by decide) ?_
  refine lv_lshl (v := ((Int32.toInt64 (xs 2)) <<< (Int32.toInt64 32 &&& 63))) hx hb dL_law_883 rfl ?_
  refine lv_aload_n hx hb dL_law_884 rfl (lv_at hl 0 rfl) ?_
  refine lv_iload hx hb dL_law_885 (lv_at hl 4 rfl) ?_
  refine lv_iconst (v := 3) hx hb dL_law_887 (by decide) ?_
  refine lv_iadd hx hb dL_law_888 ?_
  refine k_topi (y := 3) (by decide) ?_
  refine va_sld (xs := xs) hx hb hXs hbl hbA hS (k_in (by decide)) dL_law_889 ?_
  refine k_topi (y := (xs 3)) (congrArg xs (by decide)) ?_
  refine lv_i2l (v := (Int32.toInt64 (xs 3))) hx hb dL_law_890 rfl ?_
  refine lv_ldc2 (own := RL) (index := 139) (v := 4294967295) hx hb hown (hts (.constantLong RL 139 (4294967295)) (o9_L_law _ (List.mem_of_getElem? (i := 121) rfl))) dL_law_891 ?_
  refine lv_land hx hb dL_law_894 ?_
  refine lv_lor hx hb dL_law_895 ?_
  refine lv_aload_n hx hb dL_law_896 rfl (lv_at hl 0 rfl) ?_
  refine lv_iload hx hb dL_law_897 (lv_at hl 4 rfl) ?_
  refine lv_iconst (v := 4) hx hb dL_law_899 (by decide) ?_
  refine lv_iadd hx hb dL_law_900 ?_
  refine k_topi (y := 4) (by decide) ?_
  refine va_sld (xs := xs) hx hb hXs hbl hbA hS (k_in (by decide)) dL_law_901 ?_
  refine k_topi (y := (xs 4)) (congrArg xs (by decide)) ?_
  refine lv_i2l (v := (Int32.toInt64 (xs 4))) hx hb dL_law_902 rfl ?_
  refine lv_bipush (v := 32) hx hb dL_law_903 (by decide) ?_
  refine lv_lshl (v := ((Int32.toInt64 (xs 4)) <<< (Int32.toInt64 32 &&& 63))) hx hb dL_law_905 rfl ?_
  refine lv_aload_n hx hb dL_law_906 rfl (lv_at hl 0 rfl) ?_
  refine lv_iload hx hb dL_law_907 (lv_at hl 4 rfl) ?_
  refine lv_iconst (v := 5) hx hb dL_law_909 (by decide) ?_
  refine lv_iadd hx hb dL_law_910 ?_
  refine k_topi (y := 5) (by decide) ?_
  refine va_sld (xs := xs) hx hb hXs hbl hbA hS (k_in (by decide)) dL_law_911 ?_
  refine k_topi (y := (xs 5)) (congrArg xs (by decide)) ?_
  refine lv_i2l (v := (Int32.toInt64 (xs 5))) hx hb dL_law_912 rfl ?_
  refine lv_ldc2 (own := RL) (index := 139) (v := 4294967295) hx hb hown (hts (.constantLong RL 139 (4294967295)) (o9_L_law _ (List.mem_of_getElem? (i := 121) rfl))) dL_law_913 ?_
  refine lv_land hx hb dL_law_916 ?_
  refine lv_lor hx hb dL_law_917 ?_
  refine lv_aload_n hx hb dL_law_918 rfl (lv_at hl 0 rfl) ?_
  refine lv_iload hx hb dL_law_919 (lv_at hl 4 rfl) ?_
  refine lv_bipush (v := 6) hx hb dL_law_921 (by decide) ?_
  refine lv_iadd hx hb dL_law_923 ?_
  refine k_topi (y := 6) (by decide) ?_
  refine va_sld (xs := xs) hx hb hXs hbl hbA hS (k_in (by decide)) dL_law_924 ?_
  refine k_topi (y := (xs 6)) (congrArg xs (by decide)) ?_
  refine lv_i2l (v := (Int32.toInt64 (xs 6))) hx hb dL_law_925 rfl ?_
  refine lv_bipush (v := 32) hx hb dL_law_926 (by decide) ?_
  refine lv_lshl (v := ((Int32.toInt64 (xs 6)) <<< (Int32.toInt64 32 &&& 63))) hx hb dL_law_928 rfl ?_
  refine lv_aload_n hx hb dL_law_929 rfl (lv_at hl 0 rfl) ?_
  refine lv_iload hx hb dL_law_930 (lv_at hl 4 rfl) ?_
  refine lv_bipush (v := 7) hx hb dL_law_932 (by decide) ?_
  refine lv_iadd hx hb dL_law_934 ?_
  refine k_topi (y := 7) (by decide) ?_
  refine va_sld (xs := xs) hx hb hXs hbl hbA hS (k_in (by decide)) dL_law_935 ?_
  refine k_topi (y := (xs 7)) (congrArg xs (by decide)) ?_
  refine lv_i2l (v := (Int32.toInt64 (xs 7))) hx hb dL_law_936 rfl ?_
  refine lv_ldc2 (own := RL) (index := 139) (v := 4294967295) hx hb hown (hts (.constantLong RL 139 (4294967295)) (o9_L_law _ (List.mem_of_getElem? (i := 121) rfl))) dL_law_937 ?_
  refine lv_land hx hb dL_law_940 ?_
  refine lv_lor hx hb dL_law_941 ?_
  refine lv_aload_n hx hb dL_law_942 rfl (lv_at hl 0 rfl) ?_
  refine lv_iload hx hb dL_law_943 (lv_at hl 4 rfl) ?_
  refine lv_bipush (v := 8) hx hb dL_law_945 (by decide) ?_
  refine lv_iadd hx hb dL_law_947 ?_
  refine k_topi (y := 8) (by decide) ?_
  refine va_sld (xs := xs) hx hb hXs hbl hbA hS (k_in (by decide)) dL_law_948 ?_
  refine k_topi (y := (xs 8)) (congrArg xs (by decide)) ?_
  refine lv_i2l (v := (Int32.toInt64 (xs 8))) hx hb dL_law_949 rfl ?_
  refine lv_bipush (v := 32) hx hb dL_law_950 (by decide) ?_
  refine lv_lshl (v := ((Int32.toInt64 (xs 8)) <<< (Int32.toInt64 32 &&& 63))) hx hb dL_law_952 rfl ?_
  refine lv_aload_n hx hb dL_law_953 rfl (lv_at hl 0 rfl) ?_
  refine lv_iload hx hb dL_law_954 (lv_at hl 4 rfl) ?_
  refine lv_bipush (v := 9) hx hb dL_law_956 (by decide) ?_
  refine lv_iadd hx hb dL_law_958 ?_
  refine k_topi (y := 9) (by decide) ?_
  refine va_sld (xs := xs) hx hb hXs hbl hbA hS (k_in (by decide)) dL_law_959 ?_
  refine k_topi (y := (xs 9)) (congrArg xs (by decide)) ?_
  refine lv_i2l (v := (Int32.toInt64 (xs 9))) hx hb dL_law_960 rfl ?_
  refine lv_ldc2 (own := RL) (index := 139) (v := 4294967295) hx hb hown (hts (.constantLong RL 139 (4294967295)) (o9_L_law _ (List.mem_of_getElem? (i := 121) rfl))) dL_law_961 ?_
  refine lv_land hx hb dL_law_964 ?_
  refine lv_lor hx hb dL_law_965 ?_
  refine k_cVi (As := [.int (xs 1), .long (((Int32.toInt64 (xs 2)) <<< (Int32.toInt64 32 &&& 63)) ||| ((Int32.toInt64 (xs 3)) &&& 4294967295)), .long (((Int32.toInt64 (xs 4)) <<< (Int32.toInt64 32 &&& 63)) ||| ((Int32.toInt64 (xs 5)) &&& 4294967295)), .long (((Int32.toInt64 (xs 6)) <<< (Int32.toInt64 32 &&& 63)) ||| ((Int32.toInt64 (xs 7)) &&& 4294967295)), .long (((Int32.toInt64 (xs 8)) <<< (Int32.toInt64 32 &&& 63)) ||| ((Int32.toInt64 (xs 9)) &&& 4294967295))]) (rest := []) (wc := [(h0, .inr (11, f0)), (h3, .inr (1, f1)), (h4, .inr (2, f2))]) (wr := [(h1, .inr (12, f3))]) (w1 := [(h0, .inr (11, f0)), (h3, .inr (1, f1)), (h4, .inr (2, f2))]) ⟨hx, hb, hml, hown, hts⟩ hN hX hAE hK hP hD hS hA [0, 1, 2] [3] (ci := 11) rfl rfl rfl rfl (by decide +kernel) (by decide +kernel) (by decide +kernel) (c_X11_holds_0 l E D cI cJ cB cZ h0 (xs 1) (((Int32.toInt64 (xs 2)) <<< (Int32.toInt64 32 &&& 63)) ||| ((Int32.toInt64 (xs 3)) &&& 4294967295)) (((Int32.toInt64 (xs 4)) <<< (Int32.toInt64 32 &&& 63)) ||| ((Int32.toInt64 (xs 5)) &&& 4294967295)) (((Int32.toInt64 (xs 6)) <<< (Int32.toInt64 32 &&& 63)) ||| ((Int32.toInt64 (xs 7)) &&& 4294967295)) (((Int32.toInt64 (xs 8)) <<< (Int32.toInt64 32 &&& 63)) ||| ((Int32.toInt64 (xs 9)) &&& 4294967295)) f0 h3 f1 h4 f2 e0 e1 e2 e3 e4) (cwV 5 hts g9_L_law_X11_holds_141 rfl rfl rfl (by decide +kernel) ⟨Nat.le_of_ble_eq_true rfl, Nat.le_of_ble_eq_true rfl⟩) rfl hl.1 (Nat.le_of_ble_eq_true rfl) dL_law_966 ⟨Nat.le_of_ble_eq_true rfl, Nat.le_of_ble_eq_true rfl⟩ (fun H locs hP hD hS => ?_)
  have hP : va_P D vwCl [(h1, .inr (12, f3)), (h0, .inr (11, f0)), (h3, .inr (1, f1)), (h4, .inr (2, f2))] H := hP
  have hD : va_D A [(h1, .inr (12, f3)), (h0, .inr (11, f0)), (h3, .inr (1, f1)), (h4, .inr (2, f2))] := hD
  refine lv_aload_n hx hb dL_law_969 rfl (lv_at hl 2 rfl) ?_
  refine lv_aload_n hx hb dL_law_970 rfl (lv_at hl 0 rfl) ?_
  refine lv_iload hx hb dL_law_971 (lv_at hl 4 rfl) ?_
  refine lv_iconst (v := 1) hx hb dL_law_973 (by decide) ?_
  refine lv_iadd hx hb dL_law_974 ?_
  refine k_topi (y := 1) (by decide) ?_
  refine va_sld (xs := xs) hx hb hXs hbl hbA hS (k_in (by decide)) dL_law_975 ?_
  refine k_topi (y := (xs 1)) (congrArg xs (by decide)) ?_
  refine lv_aload_n hx hb dL_law_976 rfl (lv_at hl 0 rfl) ?_
  refine lv_iload hx hb dL_law_977 (lv_at hl 4 rfl) ?_
  refine lv_iconst (v := 2) hx hb dL_law_979 (by decide) ?_
  refine lv_iadd hx hb dL_law_980 ?_
  refine k_topi (y := 2) (by decide) ?_
  refine va_sld (xs := xs) hx hb hXs hbl hbA hS (k_in (by decide)) dL_law_981 ?_
  refine k_topi (y := (xs 2)) (congrArg xs (by decide)) ?_
  refine lv_i2l (v := (Int32.toInt64 (xs 2))) hx hb dL_law_982 rfl ?_
  refine lv_bipush (v := 32) hx hb dL_law_983 (by decide) ?_
  refine lv_lshl (v := ((Int32.toInt64 (xs 2)) <<< (Int32.toInt64 32 &&& 63))) hx hb dL_law_985 rfl ?_
  refine lv_aload_n hx hb dL_law_986 rfl (lv_at hl 0 rfl) ?_
  refine lv_iload hx hb dL_law_987 (lv_at hl 4 rfl) ?_
  refine lv_iconst (v := 3) hx hb dL_law_989 (by decide) ?_
  refine lv_iadd hx hb dL_law_990 ?_
  refine k_topi (y := 3) (by decide) ?_
  refine va_sld (xs := xs) hx hb hXs hbl hbA hS (k_in (by decide)) dL_law_991 ?_
  refine k_topi (y := (xs 3)) (congrArg xs (by decide)) ?_
  refine lv_i2l (v := (Int32.toInt64 (xs 3))) hx hb dL_law_992 rfl ?_
  refine lv_ldc2 (own := RL) (index := 139) (v := 4294967295) hx hb hown (hts (.constantLong RL 139 (4294967295)) (o9_L_law _ (List.mem_of_getElem? (i := 121) rfl))) dL_law_993 ?_
  refine lv_land hx hb dL_law_996 ?_
  refine lv_lor hx hb dL_law_997 ?_
  refine lv_aload_n hx hb dL_law_998 rfl (lv_at hl 0 rfl) ?_
  refine lv_iload hx hb dL_law_999 (lv_at hl 4 rfl) ?_
  refine lv_iconst (v := 4) hx hb dL_law_1001 (by decide) ?_
  refine lv_iadd hx hb dL_law_1002 ?_
  refine k_topi (y := 4) (by decide) ?_
  refine va_sld (xs := xs) hx hb hXs hbl hbA hS (k_in (by decide)) dL_law_1003 ?_
  refine k_topi (y := (xs 4)) (congrArg xs (by decide)) ?_
  refine lv_i2l (v := (Int32.toInt64 (xs 4))) hx hb dL_law_1004 rfl ?_
  refine lv_bipush (v := 32) hx hb dL_law_1005 (by decide) ?_
  refine lv_lshl (v := ((Int32.toInt64 (xs 4)) <<< (Int32.toInt64 32 &&& 63))) hx hb dL_law_1007 rfl ?_
  refine lv_aload_n hx hb dL_law_1008 rfl (lv_at hl 0 rfl) ?_
  refine lv_iload hx hb dL_law_1009 (lv_at hl 4 rfl) ?_
  refine lv_iconst (v := 5) hx hb dL_law_1011 (by decide) ?_
  refine lv_iadd hx hb dL_law_1012 ?_
  refine k_topi (y := 5) (by decide) ?_
  refine va_sld (xs := xs) hx hb hXs hbl hbA hS (k_in (by decide)) dL_law_1013 ?_
  refine k_topi (y := (xs 5)) (congrArg xs (by decide)) ?_
  refine lv_i2l (v := (Int32.toInt64 (xs 5))) hx hb dL_law_1014 rfl ?_
  refine lv_ldc2 (own := RL) (index := 139) (v := 4294967295) hx hb hown (hts (.constantLong RL 139 (4294967295)) (o9_L_law _ (List.mem_of_getElem? (i := 121) rfl))) dL_law_1015 ?_
  refine lv_land hx hb dL_law_1018 ?_
  refine lv_lor hx hb dL_law_1019 ?_
  refine lv_aload_n hx hb dL_law_1020 rfl (lv_at hl 0 rfl) ?_
  refine lv_iload hx hb dL_law_1021 (lv_at hl 4 rfl) ?_
  refine lv_bipush (v := 6) hx hb dL_law_1023 (by decide) ?_
  refine lv_iadd hx hb dL_law_1025 ?_
  refine k_topi (y := 6) (by decide) ?_
  refine va_sld (xs := xs) hx hb hXs hbl hbA hS (k_in (by decide)) dL_law_1026 ?_
  refine k_topi (y := (xs 6)) (congrArg xs (by decide)) ?_
  refine lv_i2l (v := (Int32.toInt64 (xs 6))) hx hb dL_law_1027 rfl ?_
  refine lv_bipush (v := 32) hx hb dL_law_1028 (by decide) ?_
  refine lv_lshl (v := ((Int32.toInt64 (xs 6)) <<< (Int32.toInt64 32 &&& 63))) hx hb dL_law_1030 rfl ?_
  refine lv_aload_n hx hb dL_law_1031 rfl (lv_at hl 0 rfl) ?_
  refine lv_iload hx hb dL_law_1032 (lv_at hl 4 rfl) ?_
  refine lv_bipush (v := 7) hx hb dL_law_1034 (by decide) ?_
  refine lv_iadd hx hb dL_law_1036 ?_
  refine k_topi (y := 7) (by decide) ?_
  refine va_sld (xs := xs) hx hb hXs hbl hbA hS (k_in (by decide)) dL_law_1037 ?_
  refine k_topi (y := (xs 7)) (congrArg xs (by decide)) ?_
  refine lv_i2l (v := (Int32.toInt64 (xs 7))) hx hb dL_law_1038 rfl ?_
  refine lv_ldc2 (own := RL) (index := 139) (v := 4294967295) hx hb hown (hts (.constantLong RL 139 (4294967295)) (o9_L_law _ (List.mem_of_getElem? (i := 121) rfl))) dL_law_1039 ?_
  refine lv_land hx hb dL_law_1042 ?_
  refine lv_lor hx hb dL_law_1043 ?_
  refine lv_aload_n hx hb dL_law_1044 rfl (lv_at hl 0 rfl) ?_
  refine lv_iload hx hb dL_law_1045 (lv_at hl 4 rfl) ?_
  refine lv_bipush (v := 8) hx hb dL_law_1047 (by decide) ?_
  refine lv_iadd hx hb dL_law_1049 ?_
  refine k_topi (y := 8) (by decide) ?_
  refine va_sld (xs := xs) hx hb hXs hbl hbA hS (k_in (by decide)) dL_law_1050 ?_
  refine k_topi (y := (xs 8)) (congrArg xs (by decide)) ?_
  refine lv_i2l (v := (Int32.toInt64 (xs 8))) hx hb dL_law_1051 rfl ?_
  refine lv_bipush (v := 32) hx hb dL_law_1052 (by decide) ?_
  refine lv_lshl (v := ((Int32.toInt64 (xs 8)) <<< (Int32.toInt64 32 &&& 63))) hx hb dL_law_1054 rfl ?_
  refine lv_aload_n hx hb dL_law_1055 rfl (lv_at hl 0 rfl) ?_
  refine lv_iload hx hb dL_law_1056 (lv_at hl 4 rfl) ?_
  refine lv_bipush (v := 9) hx hb dL_law_1058 (by decide) ?_
  refine lv_iadd hx hb dL_law_1060 ?_
  refine k_topi (y := 9) (by decide) ?_
  refine va_sld (xs := xs) hx hb hXs hbl hbA hS (k_in (by decide)) dL_law_1061 ?_
  refine k_topi (y := (xs 9)) (congrArg xs (by decide)) ?_
  refine lv_i2l (v := (Int32.toInt64 (xs 9))) hx hb dL_law_1062 rfl ?_
  refine lv_ldc2 (own := RL) (index := 139) (v := 4294967295) hx hb hown (hts (.constantLong RL 139 (4294967295)) (o9_L_law _ (List.mem_of_getElem? (i := 121) rfl))) dL_law_1063 ?_
  refine lv_land hx hb dL_law_1066 ?_
  refine lv_lor hx hb dL_law_1067 ?_
  refine k_cVi (As := [.int (xs 1), .long (((Int32.toInt64 (xs 2)) <<< (Int32.toInt64 32 &&& 63)) ||| ((Int32.toInt64 (xs 3)) &&& 4294967295)), .long (((Int32.toInt64 (xs 4)) <<< (Int32.toInt64 32 &&& 63)) ||| ((Int32.toInt64 (xs 5)) &&& 4294967295)), .long (((Int32.toInt64 (xs 6)) <<< (Int32.toInt64 32 &&& 63)) ||| ((Int32.toInt64 (xs 7)) &&& 4294967295)), .long (((Int32.toInt64 (xs 8)) <<< (Int32.toInt64 32 &&& 63)) ||| ((Int32.toInt64 (xs 9)) &&& 4294967295))]) (rest := [.int (-101)]) (wc := [(h1, .inr (12, f3))]) (wr := [(h0, .inr (11, f0)), (h3, .inr (1, f1)), (h4, .inr (2, f2))]) (w1 := [(h1, .inr (12, (f3.set 0 (.int 0))))]) ⟨hx, hb, hml, hown, hts⟩ hN hX hAE hK hP hD hS hA [0] [1, 2, 3] (ci := 12) rfl rfl rfl rfl (by decide +kernel) (by decide +kernel) (by decide +kernel) (c_X12_holds_0 l E D cI cJ cB cZ h1 (xs 1) (((Int32.toInt64 (xs 2)) <<< (Int32.toInt64 32 &&& 63)) ||| ((Int32.toInt64 (xs 3)) &&& 4294967295)) (((Int32.toInt64 (xs 4)) <<< (Int32.toInt64 32 &&& 63)) ||| ((Int32.toInt64 (xs 5)) &&& 4294967295)) (((Int32.toInt64 (xs 6)) <<< (Int32.toInt64 32 &&& 63)) ||| ((Int32.toInt64 (xs 7)) &&& 4294967295)) (((Int32.toInt64 (xs 8)) <<< (Int32.toInt64 32 &&& 63)) ||| ((Int32.toInt64 (xs 9)) &&& 4294967295)) f3 e5 e6 e7 e3) (cwV 5 hts g9_L_law_X12_holds_145 rfl rfl rfl (by decide +kernel) ⟨Nat.le_of_ble_eq_true rfl, Nat.le_of_ble_eq_true rfl⟩) rfl hl.1 (Nat.le_of_ble_eq_true rfl) dL_law_1068 ⟨Nat.le_of_ble_eq_true rfl, Nat.le_of_ble_eq_true rfl⟩ (fun H locs hP hD hS => ?_)
  have hP : va_P D vwCl [(h0, .inr (11, f0)), (h3, .inr (1, f1)), (h4, .inr (2, f2)), (h1, .inr (12, (f3.set 0 (.int 0))))] H := hP
  have hD : va_D A [(h0, .inr (11, f0)), (h3, .inr (1, f1)), (h4, .inr (2, f2)), (h1, .inr (12, (f3.set 0 (.int 0))))] := hD
  refine lv_icmp_eq (tgt := 1765) hx hb dL_law_1071 (by decide) (fun _ => ?_) (fun c9 => absurd (by decide) c9)
  refine W.widen (k := 601024) (n := 7293034) (Nat.le_of_ble_eq_true rfl) (Nat.le_of_ble_eq_true rfl) ?_
  exact T9 _ _ _ hS (lv_sub hl [0, 4] rfl)
set_option maxHeartbeats 400000000 in
set_option maxRecDepth 100000 in
theorem law_20_0 {p : Program} {l : Launch} {e : Env} {s : State} {m : MethodId} {below : List Frame} {meth : Method} {c : Code} {b : Nat} {xs : Nat → Int32} (E : kE) (D : va_G) (cI cJ cB cZ : ClassId) (A : Nat → Prop) (Q : State → Prop) (h0 : Nat) (h1 : Nat) (h2 : Nat) (f0 : List Value) (h3 : Nat) (f1 : List Value) (h4 : Nat) (h5 : Nat) (f2 : List Value) (f3 : List Value) (h6 : Nat) (h7 : Nat) (h8 : Nat) (h9 : Nat) (f4 : List Value) (h10 : Nat) (h11 : Nat) (h12 : Nat) (g0 : Nat → Int32) (g1 : Nat → Int32) (g2 : Nat → Int32) (g3 : Nat → Int32) (g4 : Nat → Int32) (g5 : Nat → Int64) (f5 : List Value) (h13 : Nat) (h14 : Nat) (h15 : Nat) (h16 : Nat) (h17 : Nat) (h18 : Nat) (h19 : Nat) (h20 : Nat) (h21 : Nat) (h22 : Nat) (g6 : Nat → Int32) (g7 : Nat → Int32) (g8 : Nat → Int32) (g9 : Nat → Int32) (g10 : Nat → Int32) (g11 : Nat → Int32) (g12 : Nat → Int32) (g13 : Nat → Int32) (g14 : Nat → Int32) (g15 : Nat → Int64) (e0 : f0[1]? = some (.ref h3)) (e1 : f1[8]? = some (.int 0)) (e2 : f0[6]? = some (.ref h4)) (e3 : f0[2]? = some (.ref h5)) (e4 : f2[13]? = some (.int 0)) (e5 : f3[10]? = some (.int 0)) (e6 : f3[11]? = some (.int 0)) (e7 : f3[0]? = some (.ref h5)) (e8 : f2[10]? = some (.int 0)) (e9 : f3[12]? = some (.int 0)) (e10 : f3[9]? = some (.ref h6)) (e11 : f3[13]? = some (.int 0)) (e12 : f3[7]? = some (.ref h7)) (e13 : f3[8]? = some (.ref h8)) (e14 : f0[7]? = some (.ref h9)) (e15 : f4[1]? = some (.ref h4)) (e16 : f4[5]? = some (.ref h10)) (e17 : f4[4]? = some (.ref h11)) (e18 : f4[12]? = some (.int (-1))) (e19 : f4[0]? = some (.ref h5)) (e20 : f4[11]? = some (.int 0)) (e21 : f4[2]? = some (.ref h12)) (e22 : f5[0]? = some (.int 0)) (e23 : f5[5]? = some (.int 0)) (e24 : f5[119]? = some (.int 0)) (e25 : f5[121]? = some (.ref h13)) (e26 : f5[33]? = some (.int 0)) (e27 : f5[32]? = some (.int 0)) (e28 : f5[131]? = some (.int 0)) (e29 : f5[127]? = some (.ref h14)) (e30 : f5[129]? = some (.int 0)) (e31 : f5[128]? = some (.ref h15)) (e32 : f5[126]? = some (.ref h16)) (e33 : f5[136]? = some (.ref h17)) (e34 : f5[132]? = some (.ref h18)) (e35 : f5[133]? = some (.ref h19)) (e36 : f5[135]? = some (.ref h20)) (e37 : f5[137]? = some (.ref h21)) (e38 : f5[138]? = some (.ref h22)) (e39 : f5[139]? = some (.int 0)) (e40 : f5[140]? = some (.int (-1))) (X9 : kLaw p l s m c b xs E D cI cJ cB cZ A) (T9 : kTail p l e s m b below meth c A Q) {H : Heap} {locs : List Loc} {ls : Array Slot} (hP : va_P D vwCl [(h0, .inr (11, f0)), (h3, .inr (1, f1)), (h5, .inr (2, f2)), (h4, .inr (6, f3)), (h9, .inr (0, f4)), (h6, .inl (cI, 8192, .inl g0)), (h7, .inl (cI, 48000, .inl g1)), (h8, .inl (cI, 48000, .inl g2)), (h10, .inl (cI, 3000, .inl g3)), (h11, .inl (cI, 3000, .inl g4)), (h12, .inl (cJ, 4, .inr (.inl g5))), (h1, .inr (12, f5)), (h13, .inl (cZ, 26, .inl g6)), (h14, .inl (cI, 32768, .inl g7)), (h15, .inl (cI, 3000, .inl g8)), (h16, .inl (cI, 48000, .inl g9)), (h17, .inl (cI, 4096, .inl g10)), (h18, .inl (cI, 3000, .inl g11)), (h19, .inl (cI, 3000, .inl g12)), (h20, .inl (cI, 4096, .inl g13)), (h21, .inl (cI, 3000, .inl g14)), (h22, .inl (cJ, 4, .inr (.inl g15)))] H) (hD : va_D A [(h0, .inr (11, f0)), (h3, .inr (1, f1)), (h5, .inr (2, f2)), (h4, .inr (6, f3)), (h9, .inr (0, f4)), (h6, .inl (cI, 8192, .inl g0)), (h7, .inl (cI, 48000, .inl g1)), (h8, .inl (cI, 48000, .inl g2)), (h10, .inl (cI, 3000, .inl g3)), (h11, .inl (cI, 3000, .inl g4)), (h12, .inl (cJ, 4, .inr (.inl g5))), (h1, .inr (12, f5)), (h13, .inl (cZ, 26, .inl g6)), (h14, .inl (cI, 32768, .inl g7)), (h15, .inl (cI, 3000, .inl g8)), (h16, .inl (cI, 48000, .inl g9)), (h17, .inl (cI, 4096, .inl g10)), (h18, .inl (cI, 3000, .inl g11)), (h19, .inl (cI, 3000, .inl g12)), (h20, .inl (cI, 4096, .inl g13)), (h21, .inl (cI, 3000, .inl g14)), (h22, .inl (cJ, 4, .inr (.inl g15)))]) (hS : va_S A s.heap H locs) (hl : lv_has ls 8 [(0, .ref b), (1, .ref h0), (2, .ref h1), (3, .ref h2), (4, .int 0)]) : W p l e room_1 s m #[Value.ref b] below meth c H locs 218 1205840 Q (F0 m 1076 ls []) := by
  obtain ⟨hl9, hx, hb, hml, hown, hts, hN, hX, hAE, hK, hA, hXs, hbl, hbA⟩ := X9
  refine lv_aload_n hx hb dL_law_1076 rfl (lv_at hl 1 rfl) ?_
  refine k_cVi (As := []) (rest := []) (wc := [(h0, .inr (11, f0)), (h3, .inr (1, f1)), (h5, .inr (2, f2)), (h4, .inr (6, f3)), (h6, .inl (cI, 8192, .inl g0)), (h7, .inl (cI, 48000, .inl g1)), (h8, .inl (cI, 48000, .inl g2)), (h9, .inr (0, f4)), (h10, .inl (cI, 3000, .inl g3)), (h11, .inl (cI, 3000, .inl g4)), (h12, .inl (cJ, 4, .inr (.inl g5)))]) (wr := [(h1, .inr (12, f5)), (h13, .inl (cZ, 26, .inl g6)), (h14, .inl (cI, 32768, .inl g7)), (h15, .inl (cI, 3000, .inl g8)), (h16, .inl (cI, 48000, .inl g9)), (h17, .inl (cI, 4096, .inl g10)), (h18, .inl (cI, 3000, .inl g11)), (h19, .inl (cI, 3000, .inl g12)), (h20, .inl (cI, 4096, .inl g13)), (h21, .inl (cI, 3000, .inl g14)), (h22, .inl (cJ, 4, .inr (.inl g15)))]) (w1 := [(h0, .inr (11, f0)), (h3, .inr (1, f1)), (h5, .inr (2, f2)), (h4, .inr (6, ((((((((((((((((((((((((((((((f3.set 10 (.int 0)).set 11 (.int 0)).set 12 (.int 1)).set 11 (.int 0)).set 11 (.int 0)).set 11 (.int 0)).set 11 (.int 0)).set 11 (.int 0)).set 11 (.int 0)).set 11 (.int 0)).set 11 (.int 0)).set 11 (.int 0)).set 11 (.int 0)).set 11 (.int 0)).set 11 (.int 0)).set 11 (.int 0)).set 11 (.int 0)).set 11 (.int 0)).set 11 (.int 0)).set 11 (.int 0)).set 11 (.int 0)).set 11 (.int 0)).set 11 (.int 0)).set 11 (.int 0)).set 11 (.int 0)).set 11 (.int 0)).set 11 (.int 0)).set 11 (.int 0)).set 13 (.int 0)).set 13 (.int 1)))), (h6, .inl (cI, 8192, .inl (upd (k_fill 0 8192 g0) 782 1))), (h7, .inl (cI, 48000, .inl (upd g1 0 0))), (h8, .inl (cI, 48000, .inl (upd g2 0 0))), (h9, .inr (0, ((f4.set 12 (.int 0)).set 11 (.int 0)))), (h10, .inl (cI, 3000, .inl (upd g3 0 1))), (h11, .inl (cI, 3000, .inl (upd g4 0 0))), (h12, .inl (cJ, 4, .inr (.inl (vp_updL (vp_updL (vp_updL (vp_updL (k_fillL 0 4 g5) 0 0) 1 0) 2 0) 3 0))))]) ⟨hx, hb, hml, hown, hts⟩ hN hX hAE hK hP hD hS hA [0, 1, 2, 3, 5, 6, 7, 4, 8, 9, 10] [11, 12, 13, 14, 15, 16, 17, 18, 19, 20, 21] (ci := 11) rfl rfl rfl rfl (by decide +kernel) (by decide +kernel) (by decide +kernel) (c_X11_decide_0 l E D cI cJ cB cZ h0 f0 h3 f1 h4 h5 f2 f3 h6 h7 h8 g0 g1 g2 h9 f4 h10 h11 h12 g3 g4 g5 e0 e1 e2 e3 e4 e5 e6 e7 e8 e9 e10 e11 e12 e13 e14 e15 e16 e17 e18 e19 e20 e21) (cwV 0 hts g9_L_law_X11_decide_146 rfl rfl rfl (by decide +kernel) ⟨Nat.le_of_ble_eq_true rfl, Nat.le_of_ble_eq_true rfl⟩) rfl hl.1 (Nat.le_of_ble_eq_true rfl) dL_law_1077 ⟨Nat.le_of_ble_eq_true rfl, Nat.le_of_ble_eq_true rfl⟩ (fun H locs hP hD hS => ?_)
  have hP : va_P D vwCl [(h1, .inr (12, f5)), (h13, .inl (cZ, 26, .inl g6)), (h14, .inl (cI, 32768, .inl g7)), (h15, .inl (cI, 3000, .inl g8)), (h16, .inl (cI, 48000, .inl g9)), (h17, .inl (cI, 4096, .inl g10)), (h18, .inl (cI, 3000, .inl g11)), (h19, .inl (cI, 3000, .inl g12)), (h20, .inl (cI, 4096, .inl g13)), (h21, .inl (cI, 3000, .inl g14)), (h22, .inl (cJ, 4, .inr (.inl g15))), (h0, .inr (11, f0)), (h3, .inr (1, f1)), (h5, .inr (2, f2)), (h4, .inr (6, ((((((((((((((((((((((((((((((f3.set 10 (.int 0)).set 11 (.int 0)).set 12 (.int 1)).set 11 (.int 0)).set 11 (.int 0)).set 11 (.int 0)).set 11 (.int 0)).set 11 (.int 0)).set 11 (.int 0)).set 11 (.int 0)).set 11 (.int 0)).set 11 (.int 0)).set 11 (.int 0)).set 11 (.int 0)).set 11 (.int 0)).set 11 (.int 0)).set 11 (.int 0)).set 11 (.int 0)).set 11 (.int 0)).set 11 (.int 0)).set 11 (.int 0)).set 11 (.int 0)).set 11 (.int 0)).set 11 (.int 0)).set 11 (.int 0)).set 11 (.int 0)).set 11 (.int 0)).set 11 (.int 0)).set 13 (.int 0)).set 13 (.int 1)))), (h6, .inl (cI, 8192, .inl (upd (k_fill 0 8192 g0) 782 1))), (h7, .inl (cI, 48000, .inl (upd g1 0 0))), (h8, .inl (cI, 48000, .inl (upd g2 0 0))), (h9, .inr (0, ((f4.set 12 (.int 0)).set 11 (.int 0)))), (h10, .inl (cI, 3000, .inl (upd g3 0 1))), (h11, .inl (cI, 3000, .inl (upd g4 0 0))), (h12, .inl (cJ, 4, .inr (.inl (vp_updL (vp_updL (vp_updL (vp_updL (k_fillL 0 4 g5) 0 0) 1 0) 2 0) 3 0))))] H := hP
  have hD : va_D A [(h1, .inr (12, f5)), (h13, .inl (cZ, 26, .inl g6)), (h14, .inl (cI, 32768, .inl g7)), (h15, .inl (cI, 3000, .inl g8)), (h16, .inl (cI, 48000, .inl g9)), (h17, .inl (cI, 4096, .inl g10)), (h18, .inl (cI, 3000, .inl g11)), (h19, .inl (cI, 3000, .inl g12)), (h20, .inl (cI, 4096, .inl g13)), (h21, .inl (cI, 3000, .inl g14)), (h22, .inl (cJ, 4, .inr (.inl g15))), (h0, .inr (11, f0)), (h3, .inr (1, f1)), (h5, .inr (2, f2)), (h4, .inr (6, ((((((((((((((((((((((((((((((f3.set 10 (.int 0)).set 11 (.int 0)).set 12 (.int 1)).set 11 (.int 0)).set 11 (.int 0)).set 11 (.int 0)).set 11 (.int 0)).set 11 (.int 0)).set 11 (.int 0)).set 11 (.int 0)).set 11 (.int 0)).set 11 (.int 0)).set 11 (.int 0)).set 11 (.int 0)).set 11 (.int 0)).set 11 (.int 0)).set 11 (.int 0)).set 11 (.int 0)).set 11 (.int 0)).set 11 (.int 0)).set 11 (.int 0)).set 11 (.int 0)).set 11 (.int 0)).set 11 (.int 0)).set 11 (.int 0)).set 11 (.int 0)).set 11 (.int 0)).set 11 (.int 0)).set 13 (.int 0)).set 13 (.int 1)))), (h6, .inl (cI, 8192, .inl (upd (k_fill 0 8192 g0) 782 1))), (h7, .inl (cI, 48000, .inl (upd g1 0 0))), (h8, .inl (cI, 48000, .inl (upd g2 0 0))), (h9, .inr (0, ((f4.set 12 (.int 0)).set 11 (.int 0)))), (h10, .inl (cI, 3000, .inl (upd g3 0 1))), (h11, .inl (cI, 3000, .inl (upd g4 0 0))), (h12, .inl (cJ, 4, .inr (.inl (vp_updL (vp_updL (vp_updL (vp_updL (k_fillL 0 4 g5) 0 0) 1 0) 2 0) 3 0))))] := hD
  refine lv_aload_n hx hb dL_law_1080 rfl (lv_at hl 2 rfl) ?_
  refine k_cVi (As := []) (rest := [.int 1]) (wc := [(h1, .inr (12, f5)), (h13, .inl (cZ, 26, .inl g6)), (h14, .inl (cI, 32768, .inl g7)), (h15, .inl (cI, 3000, .inl g8)), (h16, .inl (cI, 48000, .inl g9)), (h17, .inl (cI, 4096, .inl g10)), (h18, .inl (cI, 3000, .inl g11)), (h19, .inl (cI, 3000, .inl g12)), (h20, .inl (cI, 4096, .inl g13)), (h21, .inl (cI, 3000, .inl g14)), (h22, .inl (cJ, 4, .inr (.inl g15)))]) (wr := [(h0, .inr (11, f0)), (h3, .inr (1, f1)), (h5, .inr (2, f2)), (h4, .inr (6, ((((((((((((((((((((((((((((((f3.set 10 (.int 0)).set 11 (.int 0)).set 12 (.int 1)).set 11 (.int 0)).set 11 (.int 0)).set 11 (.int 0)).set 11 (.int 0)).set 11 (.int 0)).set 11 (.int 0)).set 11 (.int 0)).set 11 (.int 0)).set 11 (.int 0)).set 11 (.int 0)).set 11 (.int 0)).set 11 (.int 0)).set 11 (.int 0)).set 11 (.int 0)).set 11 (.int 0)).set 11 (.int 0)).set 11 (.int 0)).set 11 (.int 0)).set 11 (.int 0)).set 11 (.int 0)).set 11 (.int 0)).set 11 (.int 0)).set 11 (.int 0)).set 11 (.int 0)).set 11 (.int 0)).set 13 (.int 0)).set 13 (.int 1)))), (h6, .inl (cI, 8192, .inl (upd (k_fill 0 8192 g0) 782 1))), (h7, .inl (cI, 48000, .inl (upd g1 0 0))), (h8, .inl (cI, 48000, .inl (upd g2 0 0))), (h9, .inr (0, ((f4.set 12 (.int 0)).set 11 (.int 0)))), (h10, .inl (cI, 3000, .inl (upd g3 0 1))), (h11, .inl (cI, 3000, .inl (upd g4 0 0))), (h12, .inl (cJ, 4, .inr (.inl (vp_updL (vp_updL (vp_updL (vp_updL (k_fillL 0 4 g5) 0 0) 1 0) 2 0) 3 0))))]) (w1 := [(h1, .inr (12, (((((((f5.set 0 (.int 0)).set 119 (.int 0)).set 131 (.int 1)).set 129 (.int 0)).set 129 (.int 1)).set 139 (.int 0)).set 140 (.int 0)))), (h13, .inl (cZ, 26, .inl (upd (upd (upd (upd (upd (upd (upd (upd (upd (upd (upd (upd (upd (upd (upd (upd (upd (upd (upd (upd (upd (upd (upd (upd (upd (upd g6 0 0) 1 0) 2 0) 3 0) 4 0) 5 0) 6 0) 7 0) 8 0) 9 0) 10 0) 11 0) 12 0) 13 0) 14 0) 15 0) 16 0) 17 0) 18 0) 19 0) 20 0) 21 0) 22 0) 23 0) 24 0) 25 0))), (h14, .inl (cI, 32768, .inl (upd (k_fill (-1) 32768 g7) 17 0))), (h15, .inl (cI, 3000, .inl (upd g8 0 (-1)))), (h16, .inl (cI, 48000, .inl (upd g9 0 0))), (h17, .inl (cI, 4096, .inl (upd (k_fill (-1) 4096 g10) 0 1))), (h18, .inl (cI, 3000, .inl (upd (upd g11 0 0) 0 1))), (h19, .inl (cI, 3000, .inl (upd (upd g12 0 0) 0 0))), (h20, .inl (cI, 4096, .inl (upd g13 0 0))), (h21, .inl (cI, 3000, .inl (upd g14 0 0))), (h22, .inl (cJ, 4, .inr (.inl (vp_updL (vp_updL (vp_updL (vp_updL g15 0 0) 1 0) 2 0) 3 0))))]) ⟨hx, hb, hml, hown, hts⟩ hN hX hAE hK hP hD hS hA [0, 1, 2, 3, 4, 5, 6, 7, 8, 9, 10] [11, 12, 13, 14, 15, 16, 17, 18, 19, 20, 21] (ci := 12) rfl rfl rfl rfl (by decide +kernel) (by decide +kernel) (by decide +kernel) (c_X12_decide_0 l E D cI cJ cB cZ h1 f5 h13 g6 h14 h15 h16 g7 g8 g9 h17 h18 h19 h20 g10 g11 g12 g13 h21 h22 g14 g15 e22 e23 e24 e25 e26 e27 e28 e29 e30 e31 e32 e33 e34 e35 e36 e37 e38 e39 e40) (cwV 0 hts g9_L_law_X12_decide_149 rfl rfl rfl (by decide +kernel) ⟨Nat.le_of_ble_eq_true rfl, Nat.le_of_ble_eq_true rfl⟩) rfl hl.1 (Nat.le_of_ble_eq_true rfl) dL_law_1081 ⟨Nat.le_of_ble_eq_true rfl, Nat.le_of_ble_eq_true rfl⟩ (fun H locs hP hD hS => ?_)
  have hP : va_P D vwCl [(h0, .inr (11, f0)), (h3, .inr (1, f1)), (h5, .inr (2, f2)), (h4, .inr (6, ((((((((((((((((((((((((((((((f3.set 10 (.int 0)).set 11 (.int 0)).set 12 (.int 1)).set 11 (.int 0)).set 11 (.int 0)).set 11 (.int 0)).set 11 (.int 0)).set 11 (.int 0)).set 11 (.int 0)).set 11 (.int 0)).set 11 (.int 0)).set 11 (.int 0)).set 11 (.int 0)).set 11 (.int 0)).set 11 (.int 0)).set 11 (.int 0)).set 11 (.int 0)).set 11 (.int 0)).set 11 (.int 0)).set 11 (.int 0)).set 11 (.int 0)).set 11 (.int 0)).set 11 (.int 0)).set 11 (.int 0)).set 11 (.int 0)).set 11 (.int 0)).set 11 (.int 0)).set 11 (.int 0)).set 13 (.int 0)).set 13 (.int 1)))), (h6, .inl (cI, 8192, .inl (upd (k_fill 0 8192 g0) 782 1))), (h7, .inl (cI, 48000, .inl (upd g1 0 0))), (h8, .inl (cI, 48000, .inl (upd g2 0 0))), (h9, .inr (0, ((f4.set 12 (.int 0)).set 11 (.int 0)))), (h10, .inl (cI, 3000, .inl (upd g3 0 1))), (h11, .inl (cI, 3000, .inl (upd g4 0 0))), (h12, .inl (cJ, 4, .inr (.inl (vp_updL (vp_updL (vp_updL (vp_updL (k_fillL 0 4 g5) 0 0) 1 0) 2 0) 3 0)))), (h1, .inr (12, (((((((f5.set 0 (.int 0)).set 119 (.int 0)).set 131 (.int 1)).set 129 (.int 0)).set 129 (.int 1)).set 139 (.int 0)).set 140 (.int 0)))), (h13, .inl (cZ, 26, .inl (upd (upd (upd (upd (upd (upd (upd (upd (upd (upd (upd (upd (upd (upd (upd (upd (upd (upd (upd (upd (upd (upd (upd (upd (upd (upd g6 0 0) 1 0) 2 0) 3 0) 4 0) 5 0) 6 0) 7 0) 8 0) 9 0) 10 0) 11 0) 12 0) 13 0) 14 0) 15 0) 16 0) 17 0) 18 0) 19 0) 20 0) 21 0) 22 0) 23 0) 24 0) 25 0))), (h14, .inl (cI, 32768, .inl (upd (k_fill (-1) 32768 g7) 17 0))), (h15, .inl (cI, 3000, .inl (upd g8 0 (-1)))), (h16, .inl (cI, 48000, .inl (upd g9 0 0))), (h17, .inl (cI, 4096, .inl (upd (k_fill (-1) 4096 g10) 0 1))), (h18, .inl (cI, 3000, .inl (upd (upd g11 0 0) 0 1))), (h19, .inl (cI, 3000, .inl (upd (upd g12 0 0) 0 0))), (h20, .inl (cI, 4096, .inl (upd g13 0 0))), (h21, .inl (cI, 3000, .inl (upd g14 0 0))), (h22, .inl (cJ, 4, .inr (.inl (vp_updL (vp_updL (vp_updL (vp_updL g15 0 0) 1 0) 2 0) 3 0))))] H := hP
  have hD : va_D A [(h0, .inr (11, f0)), (h3, .inr (1, f1)), (h5, .inr (2, f2)), (h4, .inr (6, ((((((((((((((((((((((((((((((f3.set 10 (.int 0)).set 11 (.int 0)).set 12 (.int 1)).set 11 (.int 0)).set 11 (.int 0)).set 11 (.int 0)).set 11 (.int 0)).set 11 (.int 0)).set 11 (.int 0)).set 11 (.int 0)).set 11 (.int 0)).set 11 (.int 0)).set 11 (.int 0)).set 11 (.int 0)).set 11 (.int 0)).set 11 (.int 0)).set 11 (.int 0)).set 11 (.int 0)).set 11 (.int 0)).set 11 (.int 0)).set 11 (.int 0)).set 11 (.int 0)).set 11 (.int 0)).set 11 (.int 0)).set 11 (.int 0)).set 11 (.int 0)).set 11 (.int 0)).set 11 (.int 0)).set 13 (.int 0)).set 13 (.int 1)))), (h6, .inl (cI, 8192, .inl (upd (k_fill 0 8192 g0) 782 1))), (h7, .inl (cI, 48000, .inl (upd g1 0 0))), (h8, .inl (cI, 48000, .inl (upd g2 0 0))), (h9, .inr (0, ((f4.set 12 (.int 0)).set 11 (.int 0)))), (h10, .inl (cI, 3000, .inl (upd g3 0 1))), (h11, .inl (cI, 3000, .inl (upd g4 0 0))), (h12, .inl (cJ, 4, .inr (.inl (vp_updL (vp_updL (vp_updL (vp_updL (k_fillL 0 4 g5) 0 0) 1 0) 2 0) 3 0)))), (h1, .inr (12, (((((((f5.set 0 (.int 0)).set 119 (.int 0)).set 131 (.int 1)).set 129 (.int 0)).set 129 (.int 1)).set 139 (.int 0)).set 140 (.int 0)))), (h13, .inl (cZ, 26, .inl (upd (upd (upd (upd (upd (upd (upd (upd (upd (upd (upd (upd (upd (upd (upd (upd (upd (upd (upd (upd (upd (upd (upd (upd (upd (upd g6 0 0) 1 0) 2 0) 3 0) 4 0) 5 0) 6 0) 7 0) 8 0) 9 0) 10 0) 11 0) 12 0) 13 0) 14 0) 15 0) 16 0) 17 0) 18 0) 19 0) 20 0) 21 0) 22 0) 23 0) 24 0) 25 0))), (h14, .inl (cI, 32768, .inl (upd (k_fill (-1) 32768 g7) 17 0))), (h15, .inl (cI, 3000, .inl (upd g8 0 (-1)))), (h16, .inl (cI, 48000, .inl (upd g9 0 0))), (h17, .inl (cI, 4096, .inl (upd (k_fill (-1) 4096 g10) 0 1))), (h18, .inl (cI, 3000, .inl (upd (upd g11 0 0) 0 1))), (h19, .inl (cI, 3000, .inl (upd (upd g12 0 0) 0 0))), (h20, .inl (cI, 4096, .inl (upd g13 0 0))), (h21, .inl (cI, 3000, .inl (upd g14 0 0))), (h22, .inl (cJ, 4, .inr (.inl (vp_updL (vp_updL (vp_updL (vp_updL g15 0 0) 1 0) 2 0) 3 0))))] := hD
  refine lv_icmp_eq (tgt := 1765) hx hb dL_law_1084 (by decide) (fun _ => ?_) (fun c9 => absurd (by decide) c9)
  refine W.widen (k := 601024) (n := 7293034) (Nat.le_of_ble_eq_true rfl) (Nat.le_of_ble_eq_true rfl) ?_
  exact T9 _ _ _ hS (lv_sub hl [0, 4] rfl)
set_option maxHeartbeats 400000000 in
set_option maxRecDepth 100000 in
theorem law_21_0 {p : Program} {l : Launch} {e : Env} {s : State} {m : MethodId} {below : List Frame} {meth : Method} {c : Code} {b : Nat} {xs : Nat → Int32} (E : kE) (D : va_G) (cI cJ cB cZ : ClassId) (A : Nat → Prop) (Q : State → Prop) (h0 : Nat) (h1 : Nat) (h2 : Nat) (f0 : List Value) (h3 : Nat) (f1 : List Value) (h4 : Nat) (f2 : List Value) (h5 : Nat) (h6 : Nat) (f3 : List Value) (h7 : Nat) (f4 : List Value) (h8 : Nat) (h9 : Nat) (h10 : Nat) (h11 : Nat) (h12 : Nat) (g0 : Nat → Int32) (g1 : Nat → Int32) (g2 : Nat → Int32) (g3 : Nat → Int32) (f5 : List Value) (h13 : Nat) (h14 : Nat) (h15 : Nat) (h16 : Nat) (h17 : Nat) (h18 : Nat) (h19 : Nat) (h20 : Nat) (h21 : Nat) (h22 : Nat) (h23 : Nat) (h24 : Nat) (h25 : Nat) (h26 : Nat) (h27 : Nat) (g4 : Nat → Int32) (g5 : Nat → Int32) (g6 : Nat → Int32) (g7 : Nat → Int32) (g8 : Nat → Int32) (g9 : Nat → Int32) (g10 : Nat → Int32) (g11 : Nat → Int32) (g12 : Nat → Int32) (g13 : Nat → Int32) (g14 : Nat → Int32) (g15 : Nat → Int32) (g16 : Nat → Int32) (g17 : Nat → Int32) (g18 : Nat → Int32) (e0 : f0[1]? = some (.ref h3)) (e1 : f1[8]? = some (.int 0)) (e2 : f0[2]? = some (.ref h4)) (e3 : f2[12]? = some (.int 0)) (e4 : f0[5]? = some (.ref h5)) (e5 : f0[0]? = some (.ref h6)) (e6 : f0[12]? = some (.int 0)) (e7 : f3[0]? = some (.ref h7)) (e8 : f4[6]? = some (.ref h8)) (e9 : f4[7]? = some (.int 0)) (e10 : f4[8]? = some (.int 0)) (e11 : f4[5]? = some (.int 0)) (e12 : f4[1]? = some (.ref h9)) (e13 : f4[2]? = some (.ref h10)) (e14 : f3[3]? = some (.int 0)) (e15 : f3[4]? = some (.int 0)) (e16 : f3[5]? = some (.int 0)) (e17 : f3[6]? = some (.int 0)) (e18 : f3[7]? = some (.int 0)) (e19 : f3[8]? = some (.int 0)) (e20 : f3[11]? = some (.int 0)) (e21 : f3[12]? = some (.int 0)) (e22 : f3[13]? = some (.int 0)) (e23 : f3[14]? = some (.int 0)) (e24 : f3[1]? = some (.ref h4)) (e25 : f2[5]? = some (.ref h11)) (e26 : f2[10]? = some (.int 0)) (e27 : f2[3]? = some (.ref h12)) (e28 : f0[13]? = some (.int 0)) (e29 : f5[0]? = some (.int 0)) (e30 : f5[5]? = some (.int 0)) (e31 : f5[2]? = some (.int 0)) (e32 : f5[12]? = some (.int 0)) (e33 : f5[32]? = some (.int 0)) (e34 : f5[36]? = some (.int 0)) (e35 : f5[33]? = some (.int 0)) (e36 : f5[37]? = some (.int 0)) (e37 : f5[27]? = some (.int 0)) (e38 : f5[31]? = some (.int 0)) (e39 : f5[28]? = some (.int 0)) (e40 : f5[23]? = some (.ref h13)) (e41 : f5[24]? = some (.ref h14)) (e42 : f5[25]? = some (.ref h15)) (e43 : f5[26]? = some (.ref h16)) (e44 : f5[66]? = some (.int 0)) (e45 : f5[67]? = some (.int 0)) (e46 : f5[40]? = some (.ref h17)) (e47 : f5[45]? = some (.ref h18)) (e48 : f5[56]? = some (.ref h19)) (e49 : f5[60]? = some (.ref h20)) (e50 : f5[65]? = some (.ref h21)) (e51 : f5[76]? = some (.int 0)) (e52 : f5[83]? = some (.int 0)) (e53 : f5[69]? = some (.ref h22)) (e54 : f5[70]? = some (.ref h23)) (e55 : f5[71]? = some (.ref h24)) (e56 : f5[73]? = some (.ref h25)) (e57 : f5[75]? = some (.ref h26)) (e58 : f5[84]? = some (.int 0)) (e59 : f5[29]? = some (.int 0)) (e60 : f5[30]? = some (.int 0)) (e61 : f5[68]? = some (.ref h27)) (e62 : f5[85]? = some (.int 0)) (e63 : f5[13]? = some (.int 0)) (e64 : f5[109]? = some (.int 0)) (X9 : kLaw p l s m c b xs E D cI cJ cB cZ A) (T9 : kTail p l e s m b below meth c A Q) {H : Heap} {locs : List Loc} {ls : Array Slot} (hP : va_P D vwCl [(h0, .inr (11, f0)), (h3, .inr (1, f1)), (h4, .inr (2, f2)), (h5, .inr (8, f3)), (h7, .inr (3, f4)), (h9, .inl (cI, 2001, .inl g0)), (h10, .inl (cI, 2001, .inl g1)), (h11, .inl (cI, 260, .inl g2)), (h12, .inl (cI, 13312, .inl g3)), (h1, .inr (12, f5)), (h13, .inl (cI, 2001, .inl g4)), (h14, .inl (cI, 2001, .inl g5)), (h15, .inl (cI, 2001, .inl g6)), (h16, .inl (cI, 2001, .inl g7)), (h17, .inl (cI, 26, .inl g8)), (h18, .inl (cI, 26, .inl g9)), (h19, .inl (cI, 26, .inl g10)), (h20, .inl (cI, 26, .inl g11)), (h21, .inl (cI, 26, .inl g12)), (h22, .inl (cI, 14, .inl g13)), (h23, .inl (cI, 14, .inl g14)), (h24, .inl (cI, 14, .inl g15)), (h25, .inl (cI, 14, .inl g16)), (h26, .inl (cI, 14, .inl g17)), (h27, .inl (cI, 26, .inl g18))] H) (hD : va_D A [(h0, .inr (11, f0)), (h3, .inr (1, f1)), (h4, .inr (2, f2)), (h5, .inr (8, f3)), (h7, .inr (3, f4)), (h9, .inl (cI, 2001, .inl g0)), (h10, .inl (cI, 2001, .inl g1)), (h11, .inl (cI, 260, .inl g2)), (h12, .inl (cI, 13312, .inl g3)), (h1, .inr (12, f5)), (h13, .inl (cI, 2001, .inl g4)), (h14, .inl (cI, 2001, .inl g5)), (h15, .inl (cI, 2001, .inl g6)), (h16, .inl (cI, 2001, .inl g7)), (h17, .inl (cI, 26, .inl g8)), (h18, .inl (cI, 26, .inl g9)), (h19, .inl (cI, 26, .inl g10)), (h20, .inl (cI, 26, .inl g11)), (h21, .inl (cI, 26, .inl g12)), (h22, .inl (cI, 14, .inl g13)), (h23, .inl (cI, 14, .inl g14)), (h24, .inl (cI, 14, .inl g15)), (h25, .inl (cI, 14, .inl g16)), (h26, .inl (cI, 14, .inl g17)), (h27, .inl (cI, 26, .inl g18))]) (hS : va_S A s.heap H locs) (hl : lv_has ls 8 [(0, .ref b), (1, .ref h0), (2, .ref h1), (3, .ref h2), (4, .int 0)]) : W p l e room_1 s m #[Value.ref b] below meth c H locs 218 1205840 Q (F0 m 1089 ls []) := by
  obtain ⟨hl9, hx, hb, hml, hown, hts, hN, hX, hAE, hK, hA, hXs, hbl, hbA⟩ := X9
  refine lv_aload_n hx hb dL_law_1089 rfl (lv_at hl 1 rfl) ?_
  refine k_cVi (As := []) (rest := []) (wc := [(h0, .inr (11, f0)), (h3, .inr (1, f1)), (h4, .inr (2, f2)), (h5, .inr (8, f3)), (h7, .inr (3, f4)), (h9, .inl (cI, 2001, .inl g0)), (h10, .inl (cI, 2001, .inl g1)), (h11, .inl (cI, 260, .inl g2)), (h12, .inl (cI, 13312, .inl g3))]) (wr := [(h1, .inr (12, f5)), (h13, .inl (cI, 2001, .inl g4)), (h14, .inl (cI, 2001, .inl g5)), (h15, .inl (cI, 2001, .inl g6)), (h16, .inl (cI, 2001, .inl g7)), (h17, .inl (cI, 26, .inl g8)), (h18, .inl (cI, 26, .inl g9)), (h19, .inl (cI, 26, .inl g10)), (h20, .inl (cI, 26, .inl g11)), (h21, .inl (cI, 26, .inl g12)), (h22, .inl (cI, 14, .inl g13)), (h23, .inl (cI, 14, .inl g14)), (h24, .inl (cI, 14, .inl g15)), (h25, .inl (cI, 14, .inl g16)), (h26, .inl (cI, 14, .inl g17)), (h27, .inl (cI, 26, .inl g18))]) (w1 := [(h0, .inr (11, ((f0.set 12 (.int 0)).set 13 (.int 2)))), (h3, .inr (1, f1)), (h4, .inr (2, (f2.set 12 (.int 0)))), (h5, .inr (8, ((((((((((((((((((((((f3.set 3 (.int 0)).set 4 (.int 0)).set 5 (.int 0)).set 6 (.int (-1))).set 6 (.int 0)).set 7 (.int 0)).set 8 (.int 0)).set 11 (.int 24)).set 12 (.int 0)).set 13 (.int 0)).set 14 (.int 0)).set 3 (.int 2)).set 4 (.int 0)).set 7 (.int 44)).set 13 (.int 1)).set 13 (.int 2)).set 7 (.int 44)).set 7 (.int 44)).set 13 (.int 3)).set 13 (.int 4)).set 13 (.int 5)).set 7 (.int 44)))), (h7, .inr (3, ((((f4.set 6 (.ref h6)).set 7 (.int 0)).set 8 (.int 0)).set 5 (.int 0)))), (h9, .inl (cI, 2001, .inl (upd g0 0 0))), (h10, .inl (cI, 2001, .inl (upd g1 0 0))), (h11, .inl (cI, 260, .inl (upd (upd (upd g2 249 0) 240 0) 241 5))), (h12, .inl (cI, 13312, .inl (upd (upd (upd (upd (upd g3 12288 43) 12289 43) 12290 43) 12291 43) 12292 44)))]) ⟨hx, hb, hml, hown, hts⟩ hN hX hAE hK hP hD hS hA [0, 1, 2, 3, 4, 5, 6, 7, 8] [9, 10, 11, 12, 13, 14, 15, 16, 17, 18, 19, 20, 21, 22, 23, 24] (ci := 11) rfl rfl rfl rfl (by decide +kernel) (by decide +kernel) (by decide +kernel) (c_X11_follows_0 l E D cI cJ cB cZ h0 f0 h3 f1 h4 f2 h5 h6 f3 h7 f4 h8 h9 h10 h11 h12 g0 g1 g2 g3 e0 e1 e2 e3 e4 e5 e6 e7 e8 e9 e10 e11 e12 e13 e14 e15 e16 e17 e18 e19 e20 e21 e22 e23 e24 e25 e26 e27 e28) (cwV 0 hts g9_L_law_X11_follows_150 rfl rfl rfl (by decide +kernel) ⟨Nat.le_of_ble_eq_true rfl, Nat.le_of_ble_eq_true rfl⟩) rfl hl.1 (Nat.le_of_ble_eq_true rfl) dL_law_1090 ⟨Nat.le_of_ble_eq_true rfl, Nat.le_of_ble_eq_true rfl⟩ (fun H locs hP hD hS => ?_)
  have hP : va_P D vwCl [(h1, .inr (12, f5)), (h13, .inl (cI, 2001, .inl g4)), (h14, .inl (cI, 2001, .inl g5)), (h15, .inl (cI, 2001, .inl g6)), (h16, .inl (cI, 2001, .inl g7)), (h17, .inl (cI, 26, .inl g8)), (h18, .inl (cI, 26, .inl g9)), (h19, .inl (cI, 26, .inl g10)), (h20, .inl (cI, 26, .inl g11)), (h21, .inl (cI, 26, .inl g12)), (h22, .inl (cI, 14, .inl g13)), (h23, .inl (cI, 14, .inl g14)), (h24, .inl (cI, 14, .inl g15)), (h25, .inl (cI, 14, .inl g16)), (h26, .inl (cI, 14, .inl g17)), (h27, .inl (cI, 26, .inl g18)), (h0, .inr (11, ((f0.set 12 (.int 0)).set 13 (.int 2)))), (h3, .inr (1, f1)), (h4, .inr (2, (f2.set 12 (.int 0)))), (h5, .inr (8, ((((((((((((((((((((((f3.set 3 (.int 0)).set 4 (.int 0)).set 5 (.int 0)).set 6 (.int (-1))).set 6 (.int 0)).set 7 (.int 0)).set 8 (.int 0)).set 11 (.int 24)).set 12 (.int 0)).set 13 (.int 0)).set 14 (.int 0)).set 3 (.int 2)).set 4 (.int 0)).set 7 (.int 44)).set 13 (.int 1)).set 13 (.int 2)).set 7 (.int 44)).set 7 (.int 44)).set 13 (.int 3)).set 13 (.int 4)).set 13 (.int 5)).set 7 (.int 44)))), (h7, .inr (3, ((((f4.set 6 (.ref h6)).set 7 (.int 0)).set 8 (.int 0)).set 5 (.int 0)))), (h9, .inl (cI, 2001, .inl (upd g0 0 0))), (h10, .inl (cI, 2001, .inl (upd g1 0 0))), (h11, .inl (cI, 260, .inl (upd (upd (upd g2 249 0) 240 0) 241 5))), (h12, .inl (cI, 13312, .inl (upd (upd (upd (upd (upd g3 12288 43) 12289 43) 12290 43) 12291 43) 12292 44)))] H := hP
  have hD : va_D A [(h1, .inr (12, f5)), (h13, .inl (cI, 2001, .inl g4)), (h14, .inl (cI, 2001, .inl g5)), (h15, .inl (cI, 2001, .inl g6)), (h16, .inl (cI, 2001, .inl g7)), (h17, .inl (cI, 26, .inl g8)), (h18, .inl (cI, 26, .inl g9)), (h19, .inl (cI, 26, .inl g10)), (h20, .inl (cI, 26, .inl g11)), (h21, .inl (cI, 26, .inl g12)), (h22, .inl (cI, 14, .inl g13)), (h23, .inl (cI, 14, .inl g14)), (h24, .inl (cI, 14, .inl g15)), (h25, .inl (cI, 14, .inl g16)), (h26, .inl (cI, 14, .inl g17)), (h27, .inl (cI, 26, .inl g18)), (h0, .inr (11, ((f0.set 12 (.int 0)).set 13 (.int 2)))), (h3, .inr (1, f1)), (h4, .inr (2, (f2.set 12 (.int 0)))), (h5, .inr (8, ((((((((((((((((((((((f3.set 3 (.int 0)).set 4 (.int 0)).set 5 (.int 0)).set 6 (.int (-1))).set 6 (.int 0)).set 7 (.int 0)).set 8 (.int 0)).set 11 (.int 24)).set 12 (.int 0)).set 13 (.int 0)).set 14 (.int 0)).set 3 (.int 2)).set 4 (.int 0)).set 7 (.int 44)).set 13 (.int 1)).set 13 (.int 2)).set 7 (.int 44)).set 7 (.int 44)).set 13 (.int 3)).set 13 (.int 4)).set 13 (.int 5)).set 7 (.int 44)))), (h7, .inr (3, ((((f4.set 6 (.ref h6)).set 7 (.int 0)).set 8 (.int 0)).set 5 (.int 0)))), (h9, .inl (cI, 2001, .inl (upd g0 0 0))), (h10, .inl (cI, 2001, .inl (upd g1 0 0))), (h11, .inl (cI, 260, .inl (upd (upd (upd g2 249 0) 240 0) 241 5))), (h12, .inl (cI, 13312, .inl (upd (upd (upd (upd (upd g3 12288 43) 12289 43) 12290 43) 12291 43) 12292 44)))] := hD
  refine lv_aload_n hx hb dL_law_1093 rfl (lv_at hl 2 rfl) ?_
  refine k_cVi (As := []) (rest := [.int (-1000)]) (wc := [(h1, .inr (12, f5)), (h13, .inl (cI, 2001, .inl g4)), (h14, .inl (cI, 2001, .inl g5)), (h15, .inl (cI, 2001, .inl g6)), (h16, .inl (cI, 2001, .inl g7)), (h17, .inl (cI, 26, .inl g8)), (h18, .inl (cI, 26, .inl g9)), (h19, .inl (cI, 26, .inl g10)), (h20, .inl (cI, 26, .inl g11)), (h21, .inl (cI, 26, .inl g12)), (h22, .inl (cI, 14, .inl g13)), (h23, .inl (cI, 14, .inl g14)), (h24, .inl (cI, 14, .inl g15)), (h25, .inl (cI, 14, .inl g16)), (h26, .inl (cI, 14, .inl g17)), (h27, .inl (cI, 26, .inl g18))]) (wr := [(h0, .inr (11, ((f0.set 12 (.int 0)).set 13 (.int 2)))), (h3, .inr (1, f1)), (h4, .inr (2, (f2.set 12 (.int 0)))), (h5, .inr (8, ((((((((((((((((((((((f3.set 3 (.int 0)).set 4 (.int 0)).set 5 (.int 0)).set 6 (.int (-1))).set 6 (.int 0)).set 7 (.int 0)).set 8 (.int 0)).set 11 (.int 24)).set 12 (.int 0)).set 13 (.int 0)).set 14 (.int 0)).set 3 (.int 2)).set 4 (.int 0)).set 7 (.int 44)).set 13 (.int 1)).set 13 (.int 2)).set 7 (.int 44)).set 7 (.int 44)).set 13 (.int 3)).set 13 (.int 4)).set 13 (.int 5)).set 7 (.int 44)))), (h7, .inr (3, ((((f4.set 6 (.ref h6)).set 7 (.int 0)).set 8 (.int 0)).set 5 (.int 0)))), (h9, .inl (cI, 2001, .inl (upd g0 0 0))), (h10, .inl (cI, 2001, .inl (upd g1 0 0))), (h11, .inl (cI, 260, .inl (upd (upd (upd g2 249 0) 240 0) 241 5))), (h12, .inl (cI, 13312, .inl (upd (upd (upd (upd (upd g3 12288 43) 12289 43) 12290 43) 12291 43) 12292 44)))]) (w1 := [(h1, .inr (12, ((((((((((((((((((f5.set 0 (.int 0)).set 12 (.int 0)).set 2 (.int 0)).set 36 (.int 0)).set 37 (.int 0)).set 27 (.int 0)).set 31 (.int 0)).set 28 (.int 0)).set 66 (.int 24)).set 67 (.int 0)).set 76 (.int (-1))).set 83 (.int (-1))).set 76 (.int 0)).set 84 (.int 1)).set 31 (.int 1)).set 29 (.int 2)).set 30 (.int 0)).set 109 (.int 2)))), (h13, .inl (cI, 2001, .inl (upd g4 0 0))), (h14, .inl (cI, 2001, .inl (upd g5 0 0))), (h15, .inl (cI, 2001, .inl (upd g6 0 0))), (h16, .inl (cI, 2001, .inl (upd g7 0 0))), (h17, .inl (cI, 26, .inl (upd g8 24 0))), (h18, .inl (cI, 26, .inl (upd g9 24 0))), (h19, .inl (cI, 26, .inl (upd g10 24 0))), (h20, .inl (cI, 26, .inl (upd g11 24 0))), (h21, .inl (cI, 26, .inl (upd g12 24 0))), (h22, .inl (cI, 14, .inl (upd g13 0 0))), (h23, .inl (cI, 14, .inl (upd g14 0 (-1)))), (h24, .inl (cI, 14, .inl (upd g15 0 (-1)))), (h25, .inl (cI, 14, .inl (upd g16 0 (-1)))), (h26, .inl (cI, 14, .inl (upd g17 0 0))), (h27, .inl (cI, 26, .inl (upd g18 24 0)))]) ⟨hx, hb, hml, hown, hts⟩ hN hX hAE hK hP hD hS hA [0, 1, 2, 3, 4, 5, 6, 7, 8, 9, 10, 11, 12, 13, 14, 15] [16, 17, 18, 19, 20, 21, 22, 23, 24] (ci := 12) rfl rfl rfl rfl (by decide +kernel) (by decide +kernel) (by decide +kernel) (c_X12_follows_0 l E D cI cJ cB cZ h1 f5 h13 h14 h15 h16 g4 g5 g6 g7 h17 h18 h19 h20 h21 h22 h23 h24 h25 h26 h27 g8 g9 g10 g11 g12 g13 g14 g15 g16 g17 g18 e29 e30 e31 e32 e33 e34 e35 e36 e37 e38 e39 e40 e41 e42 e43 e44 e45 e46 e47 e48 e49 e50 e51 e52 e53 e54 e55 e56 e57 e58 e59 e60 e61 e62 e63 e64) (cwV 0 hts g9_L_law_X12_follows_153 rfl rfl rfl (by decide +kernel) ⟨Nat.le_of_ble_eq_true rfl, Nat.le_of_ble_eq_true rfl⟩) rfl hl.1 (Nat.le_of_ble_eq_true rfl) dL_law_1094 ⟨Nat.le_of_ble_eq_true rfl, Nat.le_of_ble_eq_true rfl⟩ (fun H locs hP hD hS => ?_)
  have hP : va_P D vwCl [(h0, .inr (11, ((f0.set 12 (.int 0)).set 13 (.int 2)))), (h3, .inr (1, f1)), (h4, .inr (2, (f2.set 12 (.int 0)))), (h5, .inr (8, ((((((((((((((((((((((f3.set 3 (.int 0)).set 4 (.int 0)).set 5 (.int 0)).set 6 (.int (-1))).set 6 (.int 0)).set 7 (.int 0)).set 8 (.int 0)).set 11 (.int 24)).set 12 (.int 0)).set 13 (.int 0)).set 14 (.int 0)).set 3 (.int 2)).set 4 (.int 0)).set 7 (.int 44)).set 13 (.int 1)).set 13 (.int 2)).set 7 (.int 44)).set 7 (.int 44)).set 13 (.int 3)).set 13 (.int 4)).set 13 (.int 5)).set 7 (.int 44)))), (h7, .inr (3, ((((f4.set 6 (.ref h6)).set 7 (.int 0)).set 8 (.int 0)).set 5 (.int 0)))), (h9, .inl (cI, 2001, .inl (upd g0 0 0))), (h10, .inl (cI, 2001, .inl (upd g1 0 0))), (h11, .inl (cI, 260, .inl (upd (upd (upd g2 249 0) 240 0) 241 5))), (h12, .inl (cI, 13312, .inl (upd (upd (upd (upd (upd g3 12288 43) 12289 43) 12290 43) 12291 43) 12292 44))), (h1, .inr (12, ((((((((((((((((((f5.set 0 (.int 0)).set 12 (.int 0)).set 2 (.int 0)).set 36 (.int 0)).set 37 (.int 0)).set 27 (.int 0)).set 31 (.int 0)).set 28 (.int 0)).set 66 (.int 24)).set 67 (.int 0)).set 76 (.int (-1))).set 83 (.int (-1))).set 76 (.int 0)).set 84 (.int 1)).set 31 (.int 1)).set 29 (.int 2)).set 30 (.int 0)).set 109 (.int 2)))), (h13, .inl (cI, 2001, .inl (upd g4 0 0))), (h14, .inl (cI, 2001, .inl (upd g5 0 0))), (h15, .inl (cI, 2001, .inl (upd g6 0 0))), (h16, .inl (cI, 2001, .inl (upd g7 0 0))), (h17, .inl (cI, 26, .inl (upd g8 24 0))), (h18, .inl (cI, 26, .inl (upd g9 24 0))), (h19, .inl (cI, 26, .inl (upd g10 24 0))), (h20, .inl (cI, 26, .inl (upd g11 24 0))), (h21, .inl (cI, 26, .inl (upd g12 24 0))), (h22, .inl (cI, 14, .inl (upd g13 0 0))), (h23, .inl (cI, 14, .inl (upd g14 0 (-1)))), (h24, .inl (cI, 14, .inl (upd g15 0 (-1)))), (h25, .inl (cI, 14, .inl (upd g16 0 (-1)))), (h26, .inl (cI, 14, .inl (upd g17 0 0))), (h27, .inl (cI, 26, .inl (upd g18 24 0)))] H := hP
  have hD : va_D A [(h0, .inr (11, ((f0.set 12 (.int 0)).set 13 (.int 2)))), (h3, .inr (1, f1)), (h4, .inr (2, (f2.set 12 (.int 0)))), (h5, .inr (8, ((((((((((((((((((((((f3.set 3 (.int 0)).set 4 (.int 0)).set 5 (.int 0)).set 6 (.int (-1))).set 6 (.int 0)).set 7 (.int 0)).set 8 (.int 0)).set 11 (.int 24)).set 12 (.int 0)).set 13 (.int 0)).set 14 (.int 0)).set 3 (.int 2)).set 4 (.int 0)).set 7 (.int 44)).set 13 (.int 1)).set 13 (.int 2)).set 7 (.int 44)).set 7 (.int 44)).set 13 (.int 3)).set 13 (.int 4)).set 13 (.int 5)).set 7 (.int 44)))), (h7, .inr (3, ((((f4.set 6 (.ref h6)).set 7 (.int 0)).set 8 (.int 0)).set 5 (.int 0)))), (h9, .inl (cI, 2001, .inl (upd g0 0 0))), (h10, .inl (cI, 2001, .inl (upd g1 0 0))), (h11, .inl (cI, 260, .inl (upd (upd (upd g2 249 0) 240 0) 241 5))), (h12, .inl (cI, 13312, .inl (upd (upd (upd (upd (upd g3 12288 43) 12289 43) 12290 43) 12291 43) 12292 44))), (h1, .inr (12, ((((((((((((((((((f5.set 0 (.int 0)).set 12 (.int 0)).set 2 (.int 0)).set 36 (.int 0)).set 37 (.int 0)).set 27 (.int 0)).set 31 (.int 0)).set 28 (.int 0)).set 66 (.int 24)).set 67 (.int 0)).set 76 (.int (-1))).set 83 (.int (-1))).set 76 (.int 0)).set 84 (.int 1)).set 31 (.int 1)).set 29 (.int 2)).set 30 (.int 0)).set 109 (.int 2)))), (h13, .inl (cI, 2001, .inl (upd g4 0 0))), (h14, .inl (cI, 2001, .inl (upd g5 0 0))), (h15, .inl (cI, 2001, .inl (upd g6 0 0))), (h16, .inl (cI, 2001, .inl (upd g7 0 0))), (h17, .inl (cI, 26, .inl (upd g8 24 0))), (h18, .inl (cI, 26, .inl (upd g9 24 0))), (h19, .inl (cI, 26, .inl (upd g10 24 0))), (h20, .inl (cI, 26, .inl (upd g11 24 0))), (h21, .inl (cI, 26, .inl (upd g12 24 0))), (h22, .inl (cI, 14, .inl (upd g13 0 0))), (h23, .inl (cI, 14, .inl (upd g14 0 (-1)))), (h24, .inl (cI, 14, .inl (upd g15 0 (-1)))), (h25, .inl (cI, 14, .inl (upd g16 0 (-1)))), (h26, .inl (cI, 14, .inl (upd g17 0 0))), (h27, .inl (cI, 26, .inl (upd g18 24 0)))] := hD
  refine lv_icmp_eq (tgt := 1765) hx hb dL_law_1097 (by decide) (fun _ => ?_) (fun c9 => absurd (by decide) c9)
  refine W.widen (k := 601024) (n := 7293034) (Nat.le_of_ble_eq_true rfl) (Nat.le_of_ble_eq_true rfl) ?_
  exact T9 _ _ _ hS (lv_sub hl [0, 4] rfl)
set_option maxHeartbeats 400000000 in
set_option maxRecDepth 100000 in
theorem law_22_0 {p : Program} {l : Launch} {e : Env} {s : State} {m : MethodId} {below : List Frame} {meth : Method} {c : Code} {b : Nat} {xs : Nat → Int32} (E : kE) (D : va_G) (cI cJ cB cZ : ClassId) (A : Nat → Prop) (Q : State → Prop) (h0 : Nat) (h1 : Nat) (h2 : Nat) (f0 : List Value) (h3 : Nat) (f1 : List Value) (f2 : List Value) (e0 : f0[7]? = some (.ref h3)) (e1 : ((xs 1) : Int32) < 0) (e2 : f2[140]? = some (.int (-1))) (e3 : f2[0]? = some (.int 0)) (X9 : kLaw p l s m c b xs E D cI cJ cB cZ A) (T9 : kTail p l e s m b below meth c A Q) {H : Heap} {locs : List Loc} {ls : Array Slot} (hP : va_P D vwCl [(h0, .inr (11, f0)), (h3, .inr (0, f1)), (h1, .inr (12, f2))] H) (hD : va_D A [(h0, .inr (11, f0)), (h3, .inr (0, f1)), (h1, .inr (12, f2))]) (hS : va_S A s.heap H locs) (hl : lv_has ls 8 [(0, .ref b), (1, .ref h0), (2, .ref h1), (3, .ref h2), (4, .int 0)]) : W p l e room_1 s m #[Value.ref b] below meth c H locs 218 1205840 Q (F0 m 1102 ls []) := by
  obtain ⟨hl9, hx, hb, hml, hown, hts, hN, hX, hAE, hK, hA, hXs, hbl, hbA⟩ := X9
  refine lv_aload_n hx hb dL_law_1102 rfl (lv_at hl 1 rfl) ?_
  refine lv_aload_n hx hb dL_law_1103 rfl (lv_at hl 0 rfl) ?_
  refine lv_iload hx hb dL_law_1104 (lv_at hl 4 rfl) ?_
  refine lv_iconst (v := 1) hx hb dL_law_1106 (by decide) ?_
  refine lv_iadd hx hb dL_law_1107 ?_
  refine k_topi (y := 1) (by decide) ?_
  refine va_sld (xs := xs) hx hb hXs hbl hbA hS (k_in (by decide)) dL_law_1108 ?_
  refine k_topi (y := (xs 1)) (congrArg xs (by decide)) ?_
  refine lv_aload_n hx hb dL_law_1109 rfl (lv_at hl 3 rfl) ?_
  refine k_cSWi (As := [.ref h0, .int (xs 1), .ref h2]) (rest := []) (wc := [(h0, .inr (11, f0)), (h3, .inr (0, f1))]) (wr := [(h1, .inr (12, f2))]) (w1 := [(h0, .inr (11, f0)), (h3, .inr (0, f1))]) ⟨hx, hb, hml, hown, hts⟩ hN hX hAE hK hP hD hS hA [0, 1] [2] rfl rfl (by decide +kernel) (by decide +kernel) (by decide +kernel) (c_L_value_1 l E D cI cJ cB cZ h0 (xs 1) h2 f0 h3 f1 e0 e1 hl9) (vx_cwSW 3 hts g9_L_law_L_value_154 rfl rfl rfl (by decide +kernel) ⟨Nat.le_of_ble_eq_true rfl, Nat.le_of_ble_eq_true rfl⟩) rfl hl.1 (Nat.le_of_ble_eq_true rfl) dL_law_1110 ⟨Nat.le_of_ble_eq_true rfl, Nat.le_of_ble_eq_true rfl⟩ (fun H locs hP hD hS => ?_)
  have hP : va_P D vwCl [(h1, .inr (12, f2)), (h0, .inr (11, f0)), (h3, .inr (0, f1))] H := hP
  have hD : va_D A [(h1, .inr (12, f2)), (h0, .inr (11, f0)), (h3, .inr (0, f1))] := hD
  refine W.widen (k := 219) (n := 1205846) (Nat.le_of_ble_eq_true rfl) (Nat.le_of_ble_eq_true rfl) ?_
  refine lv_istore (lv' := [(5, .int 1), (0, .ref b), (1, .ref h0), (2, .ref h1), (3, .ref h2), (4, .int 0)]) hx hb dL_law_1113 hl (by decide) rfl (fun ls hl => ?_)
  refine lv_aload_n hx hb dL_law_1115 rfl (lv_at hl 3 rfl) ?_
  refine lv_aload_n hx hb dL_law_1116 rfl (lv_at hl 1 rfl) ?_
  refine lv_iload hx hb dL_law_1117 (lv_at hl 5 rfl) ?_
  refine lv_iconst (v := 1) hx hb dL_law_1119 (by decide) ?_
  refine lv_iadd hx hb dL_law_1120 ?_
  refine k_topi (y := 1) (by decide) ?_
  refine va_sld (xs := xs) hx hb hXs hbl hbA hS (k_in (by decide)) dL_law_1121 ?_
  refine k_topi (y := (xs 1)) (congrArg xs (by decide)) ?_
  refine k_cVl (As := [.int (xs 1)]) (rest := []) (wc := [(h1, .inr (12, f2))]) (wr := [(h0, .inr (11, f0)), (h3, .inr (0, f1))]) (w1 := [(h1, .inr (12, (f2.set 0 (.int 1))))]) ⟨hx, hb, hml, hown, hts⟩ hN hX hAE hK hP hD hS hA [0] [1, 2] (ci := 12) rfl rfl rfl rfl (by decide +kernel) (by decide +kernel) (by decide +kernel) (c_X12_value_0 l E D cI cJ cB cZ h1 (xs 1) f2 e2 e3) (cwV 1 hts g9_L_law_X12_value_157 rfl rfl rfl (by decide +kernel) ⟨Nat.le_of_ble_eq_true rfl, Nat.le_of_ble_eq_true rfl⟩) rfl hl.1 (Nat.le_of_ble_eq_true rfl) dL_law_1122 ⟨Nat.le_of_ble_eq_true rfl, Nat.le_of_ble_eq_true rfl⟩ (fun H locs hP hD hS => ?_)
  have hP : va_P D vwCl [(h0, .inr (11, f0)), (h3, .inr (0, f1)), (h1, .inr (12, (f2.set 0 (.int 1))))] H := hP
  have hD : va_D A [(h0, .inr (11, f0)), (h3, .inr (0, f1)), (h1, .inr (12, (f2.set 0 (.int 1))))] := hD
  refine lv_lstore (lv' := [(6, .long 0), (5, .int 1), (0, .ref b), (1, .ref h0), (2, .ref h1), (3, .ref h2), (4, .int 0)]) hx hb dL_law_1125 hl (by decide) rfl (fun ls hl => ?_)
  refine lv_aload_n hx hb dL_law_1127 rfl (lv_at hl 4 rfl) ?_
  refine k_cVi (As := []) (rest := []) (wc := [(h1, .inr (12, (f2.set 0 (.int 1))))]) (wr := [(h0, .inr (11, f0)), (h3, .inr (0, f1))]) (w1 := [(h1, .inr (12, (f2.set 0 (.int 1))))]) ⟨hx, hb, hml, hown, hts⟩ hN hX hAE hK hP hD hS hA [2] [0, 1] (ci := 12) rfl rfl rfl rfl (by decide +kernel) (by decide +kernel) (by decide +kernel) (c_X12_thrown_1 l E D cI cJ cB cZ h1 ((f2.set 0 (.int 1))) (k_set e3)) (cwV 0 hts g9_L_law_X12_thrown_61 rfl rfl rfl (by decide +kernel) ⟨Nat.le_of_ble_eq_true rfl, Nat.le_of_ble_eq_true rfl⟩) rfl hl.1 (Nat.le_of_ble_eq_true rfl) dL_law_1128 ⟨Nat.le_of_ble_eq_true rfl, Nat.le_of_ble_eq_true rfl⟩ (fun H locs hP hD hS => ?_)
  have hP : va_P D vwCl [(h0, .inr (11, f0)), (h3, .inr (0, f1)), (h1, .inr (12, (f2.set 0 (.int 1))))] H := hP
  have hD : va_D A [(h0, .inr (11, f0)), (h3, .inr (0, f1)), (h1, .inr (12, (f2.set 0 (.int 1))))] := hD
  refine lv_iload hx hb dL_law_1131 (lv_at hl 1 rfl) ?_
  refine lv_icmp_eq (tgt := 1138) hx hb dL_law_1133 (by decide) (fun _ => ?_) (fun c9 => absurd (by decide) c9)
  refine lv_iload hx hb dL_law_1138 (lv_at hl 1 rfl) ?_
  refine lv_if_ne (tgt := 1154) hx hb dL_law_1140 (by decide) (fun _ => ?_) (fun c9 => absurd c9 (by decide))
  refine lv_goto (tgt := 1765) hx hb dL_law_1154 (by decide) ?_
  refine W.widen (k := 601024) (n := 7293034) (Nat.le_of_ble_eq_true rfl) (Nat.le_of_ble_eq_true rfl) ?_
  exact T9 _ _ _ hS (lv_sub hl [2, 6] rfl)
set_option maxHeartbeats 400000000 in
set_option maxRecDepth 100000 in
theorem law_22_1 {p : Program} {l : Launch} {e : Env} {s : State} {m : MethodId} {below : List Frame} {meth : Method} {c : Code} {b : Nat} {xs : Nat → Int32} (E : kE) (D : va_G) (cI cJ cB cZ : ClassId) (A : Nat → Prop) (Q : State → Prop) (h0 : Nat) (h1 : Nat) (h2 : Nat) (f0 : List Value) (h3 : Nat) (f1 : List Value) (f2 : List Value) (e0 : f0[7]? = some (.ref h3)) (e1 : f1[11]? = some (.int 0)) (e2 : ¬ (((xs 1) : Int32) < 0)) (e3 : f2[140]? = some (.int (-1))) (e4 : f2[0]? = some (.int 0)) (X9 : kLaw p l s m c b xs E D cI cJ cB cZ A) (T9 : kTail p l e s m b below meth c A Q) {H : Heap} {locs : List Loc} {ls : Array Slot} (hP : va_P D vwCl [(h0, .inr (11, f0)), (h3, .inr (0, f1)), (h1, .inr (12, f2))] H) (hD : va_D A [(h0, .inr (11, f0)), (h3, .inr (0, f1)), (h1, .inr (12, f2))]) (hS : va_S A s.heap H locs) (hl : lv_has ls 8 [(0, .ref b), (1, .ref h0), (2, .ref h1), (3, .ref h2), (4, .int 0)]) : W p l e room_1 s m #[Value.ref b] below meth c H locs 218 1205840 Q (F0 m 1102 ls []) := by
  obtain ⟨hl9, hx, hb, hml, hown, hts, hN, hX, hAE, hK, hA, hXs, hbl, hbA⟩ := X9
  refine lv_aload_n hx hb dL_law_1102 rfl (lv_at hl 1 rfl) ?_
  refine lv_aload_n hx hb dL_law_1103 rfl (lv_at hl 0 rfl) ?_
  refine lv_iload hx hb dL_law_1104 (lv_at hl 4 rfl) ?_
  refine lv_iconst (v := 1) hx hb dL_law_1106 (by decide) ?_
  refine lv_iadd hx hb dL_law_1107 ?_
  refine k_topi (y := 1) (by decide) ?_
  refine va_sld (xs := xs) hx hb hXs hbl hbA hS (k_in (by decide)) dL_law_1108 ?_
  refine k_topi (y := (xs 1)) (congrArg xs (by decide)) ?_
  refine lv_aload_n hx hb dL_law_1109 rfl (lv_at hl 3 rfl) ?_
  refine k_cSWi (As := [.ref h0, .int (xs 1), .ref h2]) (rest := []) (wc := [(h0, .inr (11, f0)), (h3, .inr (0, f1))]) (wr := [(h1, .inr (12, f2))]) (w1 := [(h0, .inr (11, f0)), (h3, .inr (0, f1))]) ⟨hx, hb, hml, hown, hts⟩ hN hX hAE hK hP hD hS hA [0, 1] [2] rfl rfl (by decide +kernel) (by decide +kernel) (by decide +kernel) (c_L_value_0 l E D cI cJ cB cZ h0 (xs 1) h2 f0 h3 f1 e0 e1 e2 hl9) (vx_cwSW 3 hts g9_L_law_L_value_154 rfl rfl rfl (by decide +kernel) ⟨Nat.le_of_ble_eq_true rfl, Nat.le_of_ble_eq_true rfl⟩) rfl hl.1 (Nat.le_of_ble_eq_true rfl) dL_law_1110 ⟨Nat.le_of_ble_eq_true rfl, Nat.le_of_ble_eq_true rfl⟩ (fun H locs hP hD hS => ?_)
  have hP : va_P D vwCl [(h1, .inr (12, f2)), (h0, .inr (11, f0)), (h3, .inr (0, f1))] H := hP
  have hD : va_D A [(h1, .inr (12, f2)), (h0, .inr (11, f0)), (h3, .inr (0, f1))] := hD
  refine W.widen (k := 219) (n := 1205846) (Nat.le_of_ble_eq_true rfl) (Nat.le_of_ble_eq_true rfl) ?_
  refine lv_istore (lv' := [(5, .int 1), (0, .ref b), (1, .ref h0), (2, .ref h1), (3, .ref h2), (4, .int 0)]) hx hb dL_law_1113 hl (by decide) rfl (fun ls hl => ?_)
  refine lv_aload_n hx hb dL_law_1115 rfl (lv_at hl 3 rfl) ?_
  refine lv_aload_n hx hb dL_law_1116 rfl (lv_at hl 1 rfl) ?_
  refine lv_iload hx hb dL_law_1117 (lv_at hl 5 rfl) ?_
  refine lv_iconst (v := 1) hx hb dL_law_1119 (by decide) ?_
  refine lv_iadd hx hb dL_law_1120 ?_
  refine k_topi (y := 1) (by decide) ?_
  refine va_sld (xs := xs) hx hb hXs hbl hbA hS (k_in (by decide)) dL_law_1121 ?_
  refine k_topi (y := (xs 1)) (congrArg xs (by decide)) ?_
  refine k_cVl (As := [.int (xs 1)]) (rest := []) (wc := [(h1, .inr (12, f2))]) (wr := [(h0, .inr (11, f0)), (h3, .inr (0, f1))]) (w1 := [(h1, .inr (12, (f2.set 0 (.int 1))))]) ⟨hx, hb, hml, hown, hts⟩ hN hX hAE hK hP hD hS hA [0] [1, 2] (ci := 12) rfl rfl rfl rfl (by decide +kernel) (by decide +kernel) (by decide +kernel) (c_X12_value_0 l E D cI cJ cB cZ h1 (xs 1) f2 e3 e4) (cwV 1 hts g9_L_law_X12_value_157 rfl rfl rfl (by decide +kernel) ⟨Nat.le_of_ble_eq_true rfl, Nat.le_of_ble_eq_true rfl⟩) rfl hl.1 (Nat.le_of_ble_eq_true rfl) dL_law_1122 ⟨Nat.le_of_ble_eq_true rfl, Nat.le_of_ble_eq_true rfl⟩ (fun H locs hP hD hS => ?_)
  have hP : va_P D vwCl [(h0, .inr (11, f0)), (h3, .inr (0, f1)), (h1, .inr (12, (f2.set 0 (.int 1))))] H := hP
  have hD : va_D A [(h0, .inr (11, f0)), (h3, .inr (0, f1)), (h1, .inr (12, (f2.set 0 (.int 1))))] := hD
  refine lv_lstore (lv' := [(6, .long 0), (5, .int 1), (0, .ref b), (1, .ref h0), (2, .ref h1), (3, .ref h2), (4, .int 0)]) hx hb dL_law_1125 hl (by decide) rfl (fun ls hl => ?_)
  refine lv_aload_n hx hb dL_law_1127 rfl (lv_at hl 4 rfl) ?_
  refine k_cVi (As := []) (rest := []) (wc := [(h1, .inr (12, (f2.set 0 (.int 1))))]) (wr := [(h0, .inr (11, f0)), (h3, .inr (0, f1))]) (w1 := [(h1, .inr (12, (f2.set 0 (.int 1))))]) ⟨hx, hb, hml, hown, hts⟩ hN hX hAE hK hP hD hS hA [2] [0, 1] (ci := 12) rfl rfl rfl rfl (by decide +kernel) (by decide +kernel) (by decide +kernel) (c_X12_thrown_1 l E D cI cJ cB cZ h1 ((f2.set 0 (.int 1))) (k_set e4)) (cwV 0 hts g9_L_law_X12_thrown_61 rfl rfl rfl (by decide +kernel) ⟨Nat.le_of_ble_eq_true rfl, Nat.le_of_ble_eq_true rfl⟩) rfl hl.1 (Nat.le_of_ble_eq_true rfl) dL_law_1128 ⟨Nat.le_of_ble_eq_true rfl, Nat.le_of_ble_eq_true rfl⟩ (fun H locs hP hD hS => ?_)
  have hP : va_P D vwCl [(h0, .inr (11, f0)), (h3, .inr (0, f1)), (h1, .inr (12, (f2.set 0 (.int 1))))] H := hP
  have hD : va_D A [(h0, .inr (11, f0)), (h3, .inr (0, f1)), (h1, .inr (12, (f2.set 0 (.int 1))))] := hD
  refine lv_iload hx hb dL_law_1131 (lv_at hl 1 rfl) ?_
  refine lv_icmp_eq (tgt := 1138) hx hb dL_law_1133 (by decide) (fun _ => ?_) (fun c9 => absurd (by decide) c9)
  refine lv_iload hx hb dL_law_1138 (lv_at hl 1 rfl) ?_
  refine lv_if_ne (tgt := 1154) hx hb dL_law_1140 (by decide) (fun _ => ?_) (fun c9 => absurd c9 (by decide))
  refine lv_goto (tgt := 1765) hx hb dL_law_1154 (by decide) ?_
  refine W.widen (k := 601024) (n := 7293034) (Nat.le_of_ble_eq_true rfl) (Nat.le_of_ble_eq_true rfl) ?_
  exact T9 _ _ _ hS (lv_sub hl [2, 6] rfl)
set_option maxHeartbeats 400000000 in
set_option maxRecDepth 100000 in
theorem law_23_0 {p : Program} {l : Launch} {e : Env} {s : State} {m : MethodId} {below : List Frame} {meth : Method} {c : Code} {b : Nat} {xs : Nat → Int32} (E : kE) (D : va_G) (cI cJ cB cZ : ClassId) (A : Nat → Prop) (Q : State → Prop) (h0 : Nat) (h1 : Nat) (h2 : Nat) (f0 : List Value) (h3 : Nat) (f1 : List Value) (f2 : List Value) (e0 : f0[7]? = some (.ref h3)) (e1 : f1[12]? = some (.int (-1))) (e2 : f2[0]? = some (.int 0)) (e3 : f2[140]? = some (.int (-1))) (X9 : kLaw p l s m c b xs E D cI cJ cB cZ A) (T9 : kTail p l e s m b below meth c A Q) {H : Heap} {locs : List Loc} {ls : Array Slot} (hP : va_P D vwCl [(h0, .inr (11, f0)), (h3, .inr (0, f1)), (h1, .inr (12, f2))] H) (hD : va_D A [(h0, .inr (11, f0)), (h3, .inr (0, f1)), (h1, .inr (12, f2))]) (hS : va_S A s.heap H locs) (hl : lv_has ls 8 [(0, .ref b), (1, .ref h0), (2, .ref h1), (3, .ref h2), (4, .int 0)]) : W p l e room_1 s m #[Value.ref b] below meth c H locs 218 1205840 Q (F0 m 1157 ls []) := by
  obtain ⟨hl9, hx, hb, hml, hown, hts, hN, hX, hAE, hK, hA, hXs, hbl, hbA⟩ := X9
  refine lv_aload_n hx hb dL_law_1157 rfl (lv_at hl 1 rfl) ?_
  refine k_cVi (As := []) (rest := []) (wc := [(h0, .inr (11, f0)), (h3, .inr (0, f1))]) (wr := [(h1, .inr (12, f2))]) (w1 := [(h0, .inr (11, f0)), (h3, .inr (0, f1))]) ⟨hx, hb, hml, hown, hts⟩ hN hX hAE hK hP hD hS hA [0, 1] [2] (ci := 11) rfl rfl rfl rfl (by decide +kernel) (by decide +kernel) (by decide +kernel) (c_X11_height_0 l E D cI cJ cB cZ h0 f0 h3 f1 e0 e1) (cwV 0 hts g9_L_law_X11_height_158 rfl rfl rfl (by decide +kernel) ⟨Nat.le_of_ble_eq_true rfl, Nat.le_of_ble_eq_true rfl⟩) rfl hl.1 (Nat.le_of_ble_eq_true rfl) dL_law_1158 ⟨Nat.le_of_ble_eq_true rfl, Nat.le_of_ble_eq_true rfl⟩ (fun H locs hP hD hS => ?_)
  have hP : va_P D vwCl [(h1, .inr (12, f2)), (h0, .inr (11, f0)), (h3, .inr (0, f1))] H := hP
  have hD : va_D A [(h1, .inr (12, f2)), (h0, .inr (11, f0)), (h3, .inr (0, f1))] := hD
  refine lv_aload_n hx hb dL_law_1161 rfl (lv_at hl 2 rfl) ?_
  refine k_cVi (As := []) (rest := [.int (-1)]) (wc := [(h1, .inr (12, f2))]) (wr := [(h0, .inr (11, f0)), (h3, .inr (0, f1))]) (w1 := [(h1, .inr (12, (f2.set 0 (.int 0))))]) ⟨hx, hb, hml, hown, hts⟩ hN hX hAE hK hP hD hS hA [0] [1, 2] (ci := 12) rfl rfl rfl rfl (by decide +kernel) (by decide +kernel) (by decide +kernel) (c_X12_height_0 l E D cI cJ cB cZ h1 f2 e2 e3) (cwV 0 hts g9_L_law_X12_height_161 rfl rfl rfl (by decide +kernel) ⟨Nat.le_of_ble_eq_true rfl, Nat.le_of_ble_eq_true rfl⟩) rfl hl.1 (Nat.le_of_ble_eq_true rfl) dL_law_1162 ⟨Nat.le_of_ble_eq_true rfl, Nat.le_of_ble_eq_true rfl⟩ (fun H locs hP hD hS => ?_)
  have hP : va_P D vwCl [(h0, .inr (11, f0)), (h3, .inr (0, f1)), (h1, .inr (12, (f2.set 0 (.int 0))))] H := hP
  have hD : va_D A [(h0, .inr (11, f0)), (h3, .inr (0, f1)), (h1, .inr (12, (f2.set 0 (.int 0))))] := hD
  refine lv_icmp_eq (tgt := 1765) hx hb dL_law_1165 (by decide) (fun _ => ?_) (fun c9 => absurd (by decide) c9)
  refine W.widen (k := 601024) (n := 7293034) (Nat.le_of_ble_eq_true rfl) (Nat.le_of_ble_eq_true rfl) ?_
  exact T9 _ _ _ hS (lv_sub hl [0, 4] rfl)
set_option maxHeartbeats 400000000 in
set_option maxRecDepth 100000 in
theorem law_24_0 {p : Program} {l : Launch} {e : Env} {s : State} {m : MethodId} {below : List Frame} {meth : Method} {c : Code} {b : Nat} {xs : Nat → Int32} (E : kE) (D : va_G) (cI cJ cB cZ : ClassId) (A : Nat → Prop) (Q : State → Prop) (h0 : Nat) (h1 : Nat) (h2 : Nat) (f0 : List Value) (h3 : Nat) (f1 : List Value) (h4 : Nat) (f2 : List Value) (h5 : Nat) (h6 : Nat) (f3 : List Value) (h7 : Nat) (f4 : List Value) (h8 : Nat) (h9 : Nat) (h10 : Nat) (h11 : Nat) (h12 : Nat) (g0 : Nat → Int32) (g1 : Nat → Int32) (g2 : Nat → Int32) (g3 : Nat → Int32) (f5 : List Value) (h13 : Nat) (h14 : Nat) (h15 : Nat) (h16 : Nat) (h17 : Nat) (h18 : Nat) (h19 : Nat) (h20 : Nat) (h21 : Nat) (h22 : Nat) (h23 : Nat) (h24 : Nat) (h25 : Nat) (h26 : Nat) (g4 : Nat → Int32) (g5 : Nat → Int32) (g6 : Nat → Int32) (g7 : Nat → Int32) (g8 : Nat → Int32) (g9 : Nat → Int32) (g10 : Nat → Int32) (g11 : Nat → Int32) (g12 : Nat → Int32) (g13 : Nat → Int32) (g14 : Nat → Int32) (g15 : Nat → Int32) (g16 : Nat → Int64) (g17 : Nat → Int32) (e0 : ((xs 1) : Int32) = 0) (e1 : f0[1]? = some (.ref h3)) (e2 : f1[8]? = some (.int 0)) (e3 : f0[2]? = some (.ref h4)) (e4 : f2[12]? = some (.int 0)) (e5 : f0[5]? = some (.ref h5)) (e6 : f0[0]? = some (.ref h6)) (e7 : f0[12]? = some (.int 0)) (e8 : f3[0]? = some (.ref h7)) (e9 : f4[6]? = some (.ref h8)) (e10 : f4[7]? = some (.int 0)) (e11 : f4[8]? = some (.int 0)) (e12 : f4[5]? = some (.int 0)) (e13 : f4[1]? = some (.ref h9)) (e14 : f4[2]? = some (.ref h10)) (e15 : f3[3]? = some (.int 0)) (e16 : f3[4]? = some (.int 0)) (e17 : f3[5]? = some (.int 0)) (e18 : f3[6]? = some (.int 0)) (e19 : f3[7]? = some (.int 0)) (e20 : f3[8]? = some (.int 0)) (e21 : f3[11]? = some (.int 0)) (e22 : f3[12]? = some (.int 0)) (e23 : f3[13]? = some (.int 0)) (e24 : f3[14]? = some (.int 0)) (e25 : f3[1]? = some (.ref h4)) (e26 : f2[5]? = some (.ref h11)) (e27 : f2[10]? = some (.int 0)) (e28 : f2[3]? = some (.ref h12)) (e29 : f0[13]? = some (.int 0)) (e30 : f5[0]? = some (.int 0)) (e31 : f5[5]? = some (.int 0)) (e32 : f5[2]? = some (.int 0)) (e33 : f5[12]? = some (.int 0)) (e34 : f5[32]? = some (.int 0)) (e35 : f5[36]? = some (.int 0)) (e36 : f5[33]? = some (.int 0)) (e37 : f5[37]? = some (.int 0)) (e38 : f5[27]? = some (.int 0)) (e39 : f5[31]? = some (.int 0)) (e40 : f5[28]? = some (.int 0)) (e41 : f5[23]? = some (.ref h13)) (e42 : f5[24]? = some (.ref h14)) (e43 : f5[25]? = some (.ref h15)) (e44 : f5[26]? = some (.ref h16)) (e45 : f5[66]? = some (.int 0)) (e46 : f5[67]? = some (.int 0)) (e47 : f5[40]? = some (.ref h17)) (e48 : f5[45]? = some (.ref h18)) (e49 : f5[56]? = some (.ref h19)) (e50 : f5[60]? = some (.ref h20)) (e51 : f5[65]? = some (.ref h21)) (e52 : f5[76]? = some (.int 0)) (e53 : f5[83]? = some (.int 0)) (e54 : f5[77]? = some (.ref h22)) (e55 : f5[78]? = some (.ref h23)) (e56 : f5[80]? = some (.ref h24)) (e57 : f5[81]? = some (.ref h25)) (e58 : f5[82]? = some (.ref h26)) (e59 : f5[84]? = some (.int 0)) (e60 : f5[29]? = some (.int 0)) (e61 : f5[30]? = some (.int 0)) (e62 : f5[85]? = some (.int 0)) (e63 : f5[13]? = some (.int 0)) (e64 : f5[109]? = some (.int 0)) (X9 : kLaw p l s m c b xs E D cI cJ cB cZ A) (T9 : kTail p l e s m b below meth c A Q) {H : Heap} {locs : List Loc} {ls : Array Slot} (hP : va_P D vwCl [(h0, .inr (11, f0)), (h3, .inr (1, f1)), (h4, .inr (2, f2)), (h5, .inr (8, f3)), (h7, .inr (3, f4)), (h9, .inl (cI, 2001, .inl g0)), (h10, .inl (cI, 2001, .inl g1)), (h11, .inl (cI, 260, .inl g2)), (h12, .inl (cI, 13312, .inl g3)), (h1, .inr (12, f5)), (h13, .inl (cI, 2001, .inl g4)), (h14, .inl (cI, 2001, .inl g5)), (h15, .inl (cI, 2001, .inl g6)), (h16, .inl (cI, 2001, .inl g7)), (h17, .inl (cI, 26, .inl g8)), (h18, .inl (cI, 26, .inl g9)), (h19, .inl (cI, 26, .inl g10)), (h20, .inl (cI, 26, .inl g11)), (h21, .inl (cI, 26, .inl g12)), (h22, .inl (cI, 16, .inl g13)), (h23, .inl (cI, 16, .inl g14)), (h24, .inl (cI, 16, .inl g15)), (h25, .inl (cJ, 16, .inr (.inl g16))), (h26, .inl (cI, 16, .inl g17))] H) (hD : va_D A [(h0, .inr (11, f0)), (h3, .inr (1, f1)), (h4, .inr (2, f2)), (h5, .inr (8, f3)), (h7, .inr (3, f4)), (h9, .inl (cI, 2001, .inl g0)), (h10, .inl (cI, 2001, .inl g1)), (h11, .inl (cI, 260, .inl g2)), (h12, .inl (cI, 13312, .inl g3)), (h1, .inr (12, f5)), (h13, .inl (cI, 2001, .inl g4)), (h14, .inl (cI, 2001, .inl g5)), (h15, .inl (cI, 2001, .inl g6)), (h16, .inl (cI, 2001, .inl g7)), (h17, .inl (cI, 26, .inl g8)), (h18, .inl (cI, 26, .inl g9)), (h19, .inl (cI, 26, .inl g10)), (h20, .inl (cI, 26, .inl g11)), (h21, .inl (cI, 26, .inl g12)), (h22, .inl (cI, 16, .inl g13)), (h23, .inl (cI, 16, .inl g14)), (h24, .inl (cI, 16, .inl g15)), (h25, .inl (cJ, 16, .inr (.inl g16))), (h26, .inl (cI, 16, .inl g17))]) (hS : va_S A s.heap H locs) (hl : lv_has ls 8 [(0, .ref b), (1, .ref h0), (2, .ref h1), (3, .ref h2), (4, .int 0)]) : W p l e room_1 s m #[Value.ref b] below meth c H locs 218 1205840 Q (F0 m 1170 ls []) := by
  obtain ⟨hl9, hx, hb, hml, hown, hts, hN, hX, hAE, hK, hA, hXs, hbl, hbA⟩ := X9
  refine lv_aload_n hx hb dL_law_1170 rfl (lv_at hl 1 rfl) ?_
  refine lv_aload_n hx hb dL_law_1171 rfl (lv_at hl 0 rfl) ?_
  refine lv_iload hx hb dL_law_1172 (lv_at hl 4 rfl) ?_
  refine lv_iconst (v := 1) hx hb dL_law_1174 (by decide) ?_
  refine lv_iadd hx hb dL_law_1175 ?_
  refine k_topi (y := 1) (by decide) ?_
  refine va_sld (xs := xs) hx hb hXs hbl hbA hS (k_in (by decide)) dL_law_1176 ?_
  refine k_topi (y := (xs 1)) (congrArg xs (by decide)) ?_
  refine lv_if_eq (tgt := 1184) hx hb dL_law_1177 (by decide) (fun _ => ?_) (fun c9 => absurd e0 c9)
  refine lv_iconst (v := 0) hx hb dL_law_1184 (by decide) ?_
  refine k_cVi (As := [.int 0]) (rest := []) (wc := [(h0, .inr (11, f0)), (h3, .inr (1, f1)), (h4, .inr (2, f2)), (h5, .inr (8, f3)), (h7, .inr (3, f4)), (h9, .inl (cI, 2001, .inl g0)), (h10, .inl (cI, 2001, .inl g1)), (h11, .inl (cI, 260, .inl g2)), (h12, .inl (cI, 13312, .inl g3))]) (wr := [(h1, .inr (12, f5)), (h13, .inl (cI, 2001, .inl g4)), (h14, .inl (cI, 2001, .inl g5)), (h15, .inl (cI, 2001, .inl g6)), (h16, .inl (cI, 2001, .inl g7)), (h17, .inl (cI, 26, .inl g8)), (h18, .inl (cI, 26, .inl g9)), (h19, .inl (cI, 26, .inl g10)), (h20, .inl (cI, 26, .inl g11)), (h21, .inl (cI, 26, .inl g12)), (h22, .inl (cI, 16, .inl g13)), (h23, .inl (cI, 16, .inl g14)), (h24, .inl (cI, 16, .inl g15)), (h25, .inl (cJ, 16, .inr (.inl g16))), (h26, .inl (cI, 16, .inl g17))]) (w1 := [(h0, .inr (11, ((f0.set 12 (.int 0)).set 13 (.int 2)))), (h3, .inr (1, f1)), (h4, .inr (2, (f2.set 12 (.int 0)))), (h5, .inr (8, ((((((((((((((((((f3.set 3 (.int 0)).set 4 (.int 0)).set 5 (.int 0)).set 6 (.int (-1))).set 6 (.int 0)).set 7 (.int 0)).set 8 (.int 0)).set 11 (.int 25)).set 12 (.int 0)).set 13 (.int 0)).set 14 (.int 0)).set 3 (.int 2)).set 4 (.int 0)).set 7 (.int 44)).set 13 (.int 1)).set 13 (.int 2)).set 5 (.int 0)).set 7 (.int 44)))), (h7, .inr (3, ((((f4.set 6 (.ref h6)).set 7 (.int 0)).set 8 (.int 0)).set 5 (.int 0)))), (h9, .inl (cI, 2001, .inl (upd g0 0 0))), (h10, .inl (cI, 2001, .inl (upd g1 0 0))), (h11, .inl (cI, 260, .inl (upd (upd (upd g2 259 0) 250 0) 251 2))), (h12, .inl (cI, 13312, .inl (upd (upd g3 12800 43) 12801 43)))]) ⟨hx, hb, hml, hown, hts⟩ hN hX hAE hK hP hD hS hA [0, 1, 2, 3, 4, 5, 6, 7, 8] [9, 10, 11, 12, 13, 14, 15, 16, 17, 18, 19, 20, 21, 22, 23] (ci := 11) rfl rfl rfl rfl (by decide +kernel) (by decide +kernel) (by decide +kernel) (c_X11_extreme_1 l E D cI cJ cB cZ h0 f0 h3 f1 h4 f2 h5 h6 f3 h7 f4 h8 h9 h10 h11 h12 g0 g1 g2 g3 e1 e2 e3 e4 e5 e6 e7 e8 e9 e10 e11 e12 e13 e14 e15 e16 e17 e18 e19 e20 e21 e22 e23 e24 e25 e26 e27 e28 e29) (cwV 1 hts g9_L_law_X11_extreme_162 rfl rfl rfl (by decide +kernel) ⟨Nat.le_of_ble_eq_true rfl, Nat.le_of_ble_eq_true rfl⟩) rfl hl.1 (Nat.le_of_ble_eq_true rfl) dL_law_1185 ⟨Nat.le_of_ble_eq_true rfl, Nat.le_of_ble_eq_true rfl⟩ (fun H locs hP hD hS => ?_)
  have hP : va_P D vwCl [(h1, .inr (12, f5)), (h13, .inl (cI, 2001, .inl g4)), (h14, .inl (cI, 2001, .inl g5)), (h15, .inl (cI, 2001, .inl g6)), (h16, .inl (cI, 2001, .inl g7)), (h17, .inl (cI, 26, .inl g8)), (h18, .inl (cI, 26, .inl g9)), (h19, .inl (cI, 26, .inl g10)), (h20, .inl (cI, 26, .inl g11)), (h21, .inl (cI, 26, .inl g12)), (h22, .inl (cI, 16, .inl g13)), (h23, .inl (cI, 16, .inl g14)), (h24, .inl (cI, 16, .inl g15)), (h25, .inl (cJ, 16, .inr (.inl g16))), (h26, .inl (cI, 16, .inl g17)), (h0, .inr (11, ((f0.set 12 (.int 0)).set 13 (.int 2)))), (h3, .inr (1, f1)), (h4, .inr (2, (f2.set 12 (.int 0)))), (h5, .inr (8, ((((((((((((((((((f3.set 3 (.int 0)).set 4 (.int 0)).set 5 (.int 0)).set 6 (.int (-1))).set 6 (.int 0)).set 7 (.int 0)).set 8 (.int 0)).set 11 (.int 25)).set 12 (.int 0)).set 13 (.int 0)).set 14 (.int 0)).set 3 (.int 2)).set 4 (.int 0)).set 7 (.int 44)).set 13 (.int 1)).set 13 (.int 2)).set 5 (.int 0)).set 7 (.int 44)))), (h7, .inr (3, ((((f4.set 6 (.ref h6)).set 7 (.int 0)).set 8 (.int 0)).set 5 (.int 0)))), (h9, .inl (cI, 2001, .inl (upd g0 0 0))), (h10, .inl (cI, 2001, .inl (upd g1 0 0))), (h11, .inl (cI, 260, .inl (upd (upd (upd g2 259 0) 250 0) 251 2))), (h12, .inl (cI, 13312, .inl (upd (upd g3 12800 43) 12801 43)))] H := hP
  have hD : va_D A [(h1, .inr (12, f5)), (h13, .inl (cI, 2001, .inl g4)), (h14, .inl (cI, 2001, .inl g5)), (h15, .inl (cI, 2001, .inl g6)), (h16, .inl (cI, 2001, .inl g7)), (h17, .inl (cI, 26, .inl g8)), (h18, .inl (cI, 26, .inl g9)), (h19, .inl (cI, 26, .inl g10)), (h20, .inl (cI, 26, .inl g11)), (h21, .inl (cI, 26, .inl g12)), (h22, .inl (cI, 16, .inl g13)), (h23, .inl (cI, 16, .inl g14)), (h24, .inl (cI, 16, .inl g15)), (h25, .inl (cJ, 16, .inr (.inl g16))), (h26, .inl (cI, 16, .inl g17)), (h0, .inr (11, ((f0.set 12 (.int 0)).set 13 (.int 2)))), (h3, .inr (1, f1)), (h4, .inr (2, (f2.set 12 (.int 0)))), (h5, .inr (8, ((((((((((((((((((f3.set 3 (.int 0)).set 4 (.int 0)).set 5 (.int 0)).set 6 (.int (-1))).set 6 (.int 0)).set 7 (.int 0)).set 8 (.int 0)).set 11 (.int 25)).set 12 (.int 0)).set 13 (.int 0)).set 14 (.int 0)).set 3 (.int 2)).set 4 (.int 0)).set 7 (.int 44)).set 13 (.int 1)).set 13 (.int 2)).set 5 (.int 0)).set 7 (.int 44)))), (h7, .inr (3, ((((f4.set 6 (.ref h6)).set 7 (.int 0)).set 8 (.int 0)).set 5 (.int 0)))), (h9, .inl (cI, 2001, .inl (upd g0 0 0))), (h10, .inl (cI, 2001, .inl (upd g1 0 0))), (h11, .inl (cI, 260, .inl (upd (upd (upd g2 259 0) 250 0) 251 2))), (h12, .inl (cI, 13312, .inl (upd (upd g3 12800 43) 12801 43)))] := hD
  refine lv_aload_n hx hb dL_law_1188 rfl (lv_at hl 2 rfl) ?_
  refine lv_aload_n hx hb dL_law_1189 rfl (lv_at hl 0 rfl) ?_
  refine lv_iload hx hb dL_law_1190 (lv_at hl 4 rfl) ?_
  refine lv_iconst (v := 1) hx hb dL_law_1192 (by decide) ?_
  refine lv_iadd hx hb dL_law_1193 ?_
  refine k_topi (y := 1) (by decide) ?_
  refine va_sld (xs := xs) hx hb hXs hbl hbA hS (k_in (by decide)) dL_law_1194 ?_
  refine k_topi (y := (xs 1)) (congrArg xs (by decide)) ?_
  refine lv_if_eq (tgt := 1202) hx hb dL_law_1195 (by decide) (fun _ => ?_) (fun c9 => absurd e0 c9)
  refine lv_iconst (v := 0) hx hb dL_law_1202 (by decide) ?_
  refine k_cVi (As := [.int 0]) (rest := [.int (-1000)]) (wc := [(h1, .inr (12, f5)), (h13, .inl (cI, 2001, .inl g4)), (h14, .inl (cI, 2001, .inl g5)), (h15, .inl (cI, 2001, .inl g6)), (h16, .inl (cI, 2001, .inl g7)), (h17, .inl (cI, 26, .inl g8)), (h18, .inl (cI, 26, .inl g9)), (h19, .inl (cI, 26, .inl g10)), (h20, .inl (cI, 26, .inl g11)), (h21, .inl (cI, 26, .inl g12)), (h22, .inl (cI, 16, .inl g13)), (h23, .inl (cI, 16, .inl g14)), (h24, .inl (cI, 16, .inl g15)), (h25, .inl (cJ, 16, .inr (.inl g16))), (h26, .inl (cI, 16, .inl g17))]) (wr := [(h0, .inr (11, ((f0.set 12 (.int 0)).set 13 (.int 2)))), (h3, .inr (1, f1)), (h4, .inr (2, (f2.set 12 (.int 0)))), (h5, .inr (8, ((((((((((((((((((f3.set 3 (.int 0)).set 4 (.int 0)).set 5 (.int 0)).set 6 (.int (-1))).set 6 (.int 0)).set 7 (.int 0)).set 8 (.int 0)).set 11 (.int 25)).set 12 (.int 0)).set 13 (.int 0)).set 14 (.int 0)).set 3 (.int 2)).set 4 (.int 0)).set 7 (.int 44)).set 13 (.int 1)).set 13 (.int 2)).set 5 (.int 0)).set 7 (.int 44)))), (h7, .inr (3, ((((f4.set 6 (.ref h6)).set 7 (.int 0)).set 8 (.int 0)).set 5 (.int 0)))), (h9, .inl (cI, 2001, .inl (upd g0 0 0))), (h10, .inl (cI, 2001, .inl (upd g1 0 0))), (h11, .inl (cI, 260, .inl (upd (upd (upd g2 259 0) 250 0) 251 2))), (h12, .inl (cI, 13312, .inl (upd (upd g3 12800 43) 12801 43)))]) (w1 := [(h1, .inr (12, ((((((((((((((((((((f5.set 0 (.int 0)).set 12 (.int 0)).set 2 (.int 0)).set 36 (.int 0)).set 37 (.int 0)).set 27 (.int 0)).set 31 (.int 0)).set 28 (.int 0)).set 66 (.int 25)).set 67 (.int 0)).set 76 (.int (-1))).set 83 (.int (-1))).set 83 (.int 0)).set 84 (.int 3)).set 84 (.int 4)).set 84 (.int 5)).set 31 (.int 1)).set 29 (.int 2)).set 30 (.int 0)).set 109 (.int 2)))), (h13, .inl (cI, 2001, .inl (upd g4 0 0))), (h14, .inl (cI, 2001, .inl (upd g5 0 0))), (h15, .inl (cI, 2001, .inl (upd g6 0 0))), (h16, .inl (cI, 2001, .inl (upd g7 0 0))), (h17, .inl (cI, 26, .inl (upd g8 25 0))), (h18, .inl (cI, 26, .inl (upd g9 25 0))), (h19, .inl (cI, 26, .inl (upd g10 25 0))), (h20, .inl (cI, 26, .inl (upd g11 25 0))), (h21, .inl (cI, 26, .inl (upd g12 25 0))), (h22, .inl (cI, 16, .inl (upd g13 0 33))), (h23, .inl (cI, 16, .inl (upd g14 0 (-1)))), (h24, .inl (cI, 16, .inl (upd (upd g15 0 1) 0 1))), (h25, .inl (cJ, 16, .inr (.inl (vp_updL (vp_updL g16 0 1) 0 1)))), (h26, .inl (cI, 16, .inl (upd g17 0 (-1))))]) ⟨hx, hb, hml, hown, hts⟩ hN hX hAE hK hP hD hS hA [0, 1, 2, 3, 4, 5, 6, 7, 8, 9, 10, 11, 12, 13, 14] [15, 16, 17, 18, 19, 20, 21, 22, 23] (ci := 12) rfl rfl rfl rfl (by decide +kernel) (by decide +kernel) (by decide +kernel) (c_X12_extreme_1 l E D cI cJ cB cZ h1 f5 h13 h14 h15 h16 g4 g5 g6 g7 h17 h18 h19 h20 h21 g8 g9 g10 g11 g12 h22 h23 h24 h25 h26 g13 g14 g15 g16 g17 e30 e31 e32 e33 e34 e35 e36 e37 e38 e39 e40 e41 e42 e43 e44 e45 e46 e47 e48 e49 e50 e51 e52 e53 e54 e55 e56 e57 e58 e59 e60 e61 e62 e63 e64) (cwV 1 hts g9_L_law_X12_extreme_166 rfl rfl rfl (by decide +kernel) ⟨Nat.le_of_ble_eq_true rfl, Nat.le_of_ble_eq_true rfl⟩) rfl hl.1 (Nat.le_of_ble_eq_true rfl) dL_law_1203 ⟨Nat.le_of_ble_eq_true rfl, Nat.le_of_ble_eq_true rfl⟩ (fun H locs hP hD hS => ?_)
  have hP : va_P D vwCl [(h0, .inr (11, ((f0.set 12 (.int 0)).set 13 (.int 2)))), (h3, .inr (1, f1)), (h4, .inr (2, (f2.set 12 (.int 0)))), (h5, .inr (8, ((((((((((((((((((f3.set 3 (.int 0)).set 4 (.int 0)).set 5 (.int 0)).set 6 (.int (-1))).set 6 (.int 0)).set 7 (.int 0)).set 8 (.int 0)).set 11 (.int 25)).set 12 (.int 0)).set 13 (.int 0)).set 14 (.int 0)).set 3 (.int 2)).set 4 (.int 0)).set 7 (.int 44)).set 13 (.int 1)).set 13 (.int 2)).set 5 (.int 0)).set 7 (.int 44)))), (h7, .inr (3, ((((f4.set 6 (.ref h6)).set 7 (.int 0)).set 8 (.int 0)).set 5 (.int 0)))), (h9, .inl (cI, 2001, .inl (upd g0 0 0))), (h10, .inl (cI, 2001, .inl (upd g1 0 0))), (h11, .inl (cI, 260, .inl (upd (upd (upd g2 259 0) 250 0) 251 2))), (h12, .inl (cI, 13312, .inl (upd (upd g3 12800 43) 12801 43))), (h1, .inr (12, ((((((((((((((((((((f5.set 0 (.int 0)).set 12 (.int 0)).set 2 (.int 0)).set 36 (.int 0)).set 37 (.int 0)).set 27 (.int 0)).set 31 (.int 0)).set 28 (.int 0)).set 66 (.int 25)).set 67 (.int 0)).set 76 (.int (-1))).set 83 (.int (-1))).set 83 (.int 0)).set 84 (.int 3)).set 84 (.int 4)).set 84 (.int 5)).set 31 (.int 1)).set 29 (.int 2)).set 30 (.int 0)).set 109 (.int 2)))), (h13, .inl (cI, 2001, .inl (upd g4 0 0))), (h14, .inl (cI, 2001, .inl (upd g5 0 0))), (h15, .inl (cI, 2001, .inl (upd g6 0 0))), (h16, .inl (cI, 2001, .inl (upd g7 0 0))), (h17, .inl (cI, 26, .inl (upd g8 25 0))), (h18, .inl (cI, 26, .inl (upd g9 25 0))), (h19, .inl (cI, 26, .inl (upd g10 25 0))), (h20, .inl (cI, 26, .inl (upd g11 25 0))), (h21, .inl (cI, 26, .inl (upd g12 25 0))), (h22, .inl (cI, 16, .inl (upd g13 0 33))), (h23, .inl (cI, 16, .inl (upd g14 0 (-1)))), (h24, .inl (cI, 16, .inl (upd (upd g15 0 1) 0 1))), (h25, .inl (cJ, 16, .inr (.inl (vp_updL (vp_updL g16 0 1) 0 1)))), (h26, .inl (cI, 16, .inl (upd g17 0 (-1))))] H := hP
  have hD : va_D A [(h0, .inr (11, ((f0.set 12 (.int 0)).set 13 (.int 2)))), (h3, .inr (1, f1)), (h4, .inr (2, (f2.set 12 (.int 0)))), (h5, .inr (8, ((((((((((((((((((f3.set 3 (.int 0)).set 4 (.int 0)).set 5 (.int 0)).set 6 (.int (-1))).set 6 (.int 0)).set 7 (.int 0)).set 8 (.int 0)).set 11 (.int 25)).set 12 (.int 0)).set 13 (.int 0)).set 14 (.int 0)).set 3 (.int 2)).set 4 (.int 0)).set 7 (.int 44)).set 13 (.int 1)).set 13 (.int 2)).set 5 (.int 0)).set 7 (.int 44)))), (h7, .inr (3, ((((f4.set 6 (.ref h6)).set 7 (.int 0)).set 8 (.int 0)).set 5 (.int 0)))), (h9, .inl (cI, 2001, .inl (upd g0 0 0))), (h10, .inl (cI, 2001, .inl (upd g1 0 0))), (h11, .inl (cI, 260, .inl (upd (upd (upd g2 259 0) 250 0) 251 2))), (h12, .inl (cI, 13312, .inl (upd (upd g3 12800 43) 12801 43))), (h1, .inr (12, ((((((((((((((((((((f5.set 0 (.int 0)).set 12 (.int 0)).set 2 (.int 0)).set 36 (.int 0)).set 37 (.int 0)).set 27 (.int 0)).set 31 (.int 0)).set 28 (.int 0)).set 66 (.int 25)).set 67 (.int 0)).set 76 (.int (-1))).set 83 (.int (-1))).set 83 (.int 0)).set 84 (.int 3)).set 84 (.int 4)).set 84 (.int 5)).set 31 (.int 1)).set 29 (.int 2)).set 30 (.int 0)).set 109 (.int 2)))), (h13, .inl (cI, 2001, .inl (upd g4 0 0))), (h14, .inl (cI, 2001, .inl (upd g5 0 0))), (h15, .inl (cI, 2001, .inl (upd g6 0 0))), (h16, .inl (cI, 2001, .inl (upd g7 0 0))), (h17, .inl (cI, 26, .inl (upd g8 25 0))), (h18, .inl (cI, 26, .inl (upd g9 25 0))), (h19, .inl (cI, 26, .inl (upd g10 25 0))), (h20, .inl (cI, 26, .inl (upd g11 25 0))), (h21, .inl (cI, 26, .inl (upd g12 25 0))), (h22, .inl (cI, 16, .inl (upd g13 0 33))), (h23, .inl (cI, 16, .inl (upd g14 0 (-1)))), (h24, .inl (cI, 16, .inl (upd (upd g15 0 1) 0 1))), (h25, .inl (cJ, 16, .inr (.inl (vp_updL (vp_updL g16 0 1) 0 1)))), (h26, .inl (cI, 16, .inl (upd g17 0 (-1))))] := hD
  refine lv_icmp_eq (tgt := 1765) hx hb dL_law_1206 (by decide) (fun _ => ?_) (fun c9 => absurd (by decide) c9)
  refine W.widen (k := 601024) (n := 7293034) (Nat.le_of_ble_eq_true rfl) (Nat.le_of_ble_eq_true rfl) ?_
  exact T9 _ _ _ hS (lv_sub hl [0, 4] rfl)
set_option maxHeartbeats 400000000 in
set_option maxRecDepth 100000 in
theorem law_24_1 {p : Program} {l : Launch} {e : Env} {s : State} {m : MethodId} {below : List Frame} {meth : Method} {c : Code} {b : Nat} {xs : Nat → Int32} (E : kE) (D : va_G) (cI cJ cB cZ : ClassId) (A : Nat → Prop) (Q : State → Prop) (h0 : Nat) (h1 : Nat) (h2 : Nat) (f0 : List Value) (h3 : Nat) (f1 : List Value) (h4 : Nat) (f2 : List Value) (h5 : Nat) (h6 : Nat) (f3 : List Value) (h7 : Nat) (f4 : List Value) (h8 : Nat) (h9 : Nat) (h10 : Nat) (h11 : Nat) (h12 : Nat) (g0 : Nat → Int32) (g1 : Nat → Int32) (g2 : Nat → Int32) (g3 : Nat → Int32) (f5 : List Value) (h13 : Nat) (h14 : Nat) (h15 : Nat) (h16 : Nat) (h17 : Nat) (h18 : Nat) (h19 : Nat) (h20 : Nat) (h21 : Nat) (h22 : Nat) (h23 : Nat) (h24 : Nat) (h25 : Nat) (h26 : Nat) (g4 : Nat → Int32) (g5 : Nat → Int32) (g6 : Nat → Int32) (g7 : Nat → Int32) (g8 : Nat → Int32) (g9 : Nat → Int32) (g10 : Nat → Int32) (g11 : Nat → Int32) (g12 : Nat → Int32) (g13 : Nat → Int32) (g14 : Nat → Int32) (g15 : Nat → Int32) (g16 : Nat → Int64) (g17 : Nat → Int32) (e0 : ¬ (((xs 1) : Int32) = 0)) (e1 : f0[1]? = some (.ref h3)) (e2 : f1[8]? = some (.int 0)) (e3 : f0[2]? = some (.ref h4)) (e4 : f2[12]? = some (.int 0)) (e5 : f0[5]? = some (.ref h5)) (e6 : f0[0]? = some (.ref h6)) (e7 : f0[12]? = some (.int 0)) (e8 : f3[0]? = some (.ref h7)) (e9 : f4[6]? = some (.ref h8)) (e10 : f4[7]? = some (.int 0)) (e11 : f4[8]? = some (.int 0)) (e12 : f4[5]? = some (.int 0)) (e13 : f4[1]? = some (.ref h9)) (e14 : f4[2]? = some (.ref h10)) (e15 : f3[3]? = some (.int 0)) (e16 : f3[4]? = some (.int 0)) (e17 : f3[5]? = some (.int 0)) (e18 : f3[6]? = some (.int 0)) (e19 : f3[7]? = some (.int 0)) (e20 : f3[8]? = some (.int 0)) (e21 : f3[11]? = some (.int 0)) (e22 : f3[12]? = some (.int 0)) (e23 : f3[13]? = some (.int 0)) (e24 : f3[14]? = some (.int 0)) (e25 : f3[1]? = some (.ref h4)) (e26 : f2[5]? = some (.ref h11)) (e27 : f2[10]? = some (.int 0)) (e28 : f2[3]? = some (.ref h12)) (e29 : f0[13]? = some (.int 0)) (e30 : f5[0]? = some (.int 0)) (e31 : f5[5]? = some (.int 0)) (e32 : f5[2]? = some (.int 0)) (e33 : f5[12]? = some (.int 0)) (e34 : f5[32]? = some (.int 0)) (e35 : f5[36]? = some (.int 0)) (e36 : f5[33]? = some (.int 0)) (e37 : f5[37]? = some (.int 0)) (e38 : f5[27]? = some (.int 0)) (e39 : f5[31]? = some (.int 0)) (e40 : f5[28]? = some (.int 0)) (e41 : f5[23]? = some (.ref h13)) (e42 : f5[24]? = some (.ref h14)) (e43 : f5[25]? = some (.ref h15)) (e44 : f5[26]? = some (.ref h16)) (e45 : f5[66]? = some (.int 0)) (e46 : f5[67]? = some (.int 0)) (e47 : f5[40]? = some (.ref h17)) (e48 : f5[45]? = some (.ref h18)) (e49 : f5[56]? = some (.ref h19)) (e50 : f5[60]? = some (.ref h20)) (e51 : f5[65]? = some (.ref h21)) (e52 : f5[76]? = some (.int 0)) (e53 : f5[83]? = some (.int 0)) (e54 : f5[77]? = some (.ref h22)) (e55 : f5[78]? = some (.ref h23)) (e56 : f5[80]? = some (.ref h24)) (e57 : f5[81]? = some (.ref h25)) (e58 : f5[82]? = some (.ref h26)) (e59 : f5[84]? = some (.int 0)) (e60 : f5[29]? = some (.int 0)) (e61 : f5[30]? = some (.int 0)) (e62 : f5[85]? = some (.int 0)) (e63 : f5[13]? = some (.int 0)) (e64 : f5[109]? = some (.int 0)) (X9 : kLaw p l s m c b xs E D cI cJ cB cZ A) (T9 : kTail p l e s m b below meth c A Q) {H : Heap} {locs : List Loc} {ls : Array Slot} (hP : va_P D vwCl [(h0, .inr (11, f0)), (h3, .inr (1, f1)), (h4, .inr (2, f2)), (h5, .inr (8, f3)), (h7, .inr (3, f4)), (h9, .inl (cI, 2001, .inl g0)), (h10, .inl (cI, 2001, .inl g1)), (h11, .inl (cI, 260, .inl g2)), (h12, .inl (cI, 13312, .inl g3)), (h1, .inr (12, f5)), (h13, .inl (cI, 2001, .inl g4)), (h14, .inl (cI, 2001, .inl g5)), (h15, .inl (cI, 2001, .inl g6)), (h16, .inl (cI, 2001, .inl g7)), (h17, .inl (cI, 26, .inl g8)), (h18, .inl (cI, 26, .inl g9)), (h19, .inl (cI, 26, .inl g10)), (h20, .inl (cI, 26, .inl g11)), (h21, .inl (cI, 26, .inl g12)), (h22, .inl (cI, 16, .inl g13)), (h23, .inl (cI, 16, .inl g14)), (h24, .inl (cI, 16, .inl g15)), (h25, .inl (cJ, 16, .inr (.inl g16))), (h26, .inl (cI, 16, .inl g17))] H) (hD : va_D A [(h0, .inr (11, f0)), (h3, .inr (1, f1)), (h4, .inr (2, f2)), (h5, .inr (8, f3)), (h7, .inr (3, f4)), (h9, .inl (cI, 2001, .inl g0)), (h10, .inl (cI, 2001, .inl g1)), (h11, .inl (cI, 260, .inl g2)), (h12, .inl (cI, 13312, .inl g3)), (h1, .inr (12, f5)), (h13, .inl (cI, 2001, .inl g4)), (h14, .inl (cI, 2001, .inl g5)), (h15, .inl (cI, 2001, .inl g6)), (h16, .inl (cI, 2001, .inl g7)), (h17, .inl (cI, 26, .inl g8)), (h18, .inl (cI, 26, .inl g9)), (h19, .inl (cI, 26, .inl g10)), (h20, .inl (cI, 26, .inl g11)), (h21, .inl (cI, 26, .inl g12)), (h22, .inl (cI, 16, .inl g13)), (h23, .inl (cI, 16, .inl g14)), (h24, .inl (cI, 16, .inl g15)), (h25, .inl (cJ, 16, .inr (.inl g16))), (h26, .inl (cI, 16, .inl g17))]) (hS : va_S A s.heap H locs) (hl : lv_has ls 8 [(0, .ref b), (1, .ref h0), (2, .ref h1), (3, .ref h2), (4, .int 0)]) : W p l e room_1 s m #[Value.ref b] below meth c H locs 218 1205840 Q (F0 m 1170 ls []) := by
  obtain ⟨hl9, hx, hb, hml, hown, hts, hN, hX, hAE, hK, hA, hXs, hbl, hbA⟩ := X9
  refine lv_aload_n hx hb dL_law_1170 rfl (lv_at hl 1 rfl) ?_
  refine lv_aload_n hx hb dL_law_1171 rfl (lv_at hl 0 rfl) ?_
  refine lv_iload hx hb dL_law_1172 (lv_at hl 4 rfl) ?_
  refine lv_iconst (v := 1) hx hb dL_law_1174 (by decide) ?_
  refine lv_iadd hx hb dL_law_1175 ?_
  refine k_topi (y := 1) (by decide) ?_
  refine va_sld (xs := xs) hx hb hXs hbl hbA hS (k_in (by decide)) dL_law_1176 ?_
  refine k_topi (y := (xs 1)) (congrArg xs (by decide)) ?_
  refine lv_if_eq (tgt := 1184) hx hb dL_law_1177 (by decide) (fun c9 => absurd c9 e0) (fun _ => ?_)
  refine lv_iconst (v := 1) hx hb dL_law_1180 (by decide) ?_
  refine lv_goto (tgt := 1185) hx hb dL_law_1181 (by decide) ?_
  refine k_cVi (As := [.int 1]) (rest := []) (wc := [(h0, .inr (11, f0)), (h3, .inr (1, f1)), (h4, .inr (2, f2)), (h5, .inr (8, f3)), (h7, .inr (3, f4)), (h9, .inl (cI, 2001, .inl g0)), (h10, .inl (cI, 2001, .inl g1)), (h11, .inl (cI, 260, .inl g2)), (h12, .inl (cI, 13312, .inl g3))]) (wr := [(h1, .inr (12, f5)), (h13, .inl (cI, 2001, .inl g4)), (h14, .inl (cI, 2001, .inl g5)), (h15, .inl (cI, 2001, .inl g6)), (h16, .inl (cI, 2001, .inl g7)), (h17, .inl (cI, 26, .inl g8)), (h18, .inl (cI, 26, .inl g9)), (h19, .inl (cI, 26, .inl g10)), (h20, .inl (cI, 26, .inl g11)), (h21, .inl (cI, 26, .inl g12)), (h22, .inl (cI, 16, .inl g13)), (h23, .inl (cI, 16, .inl g14)), (h24, .inl (cI, 16, .inl g15)), (h25, .inl (cJ, 16, .inr (.inl g16))), (h26, .inl (cI, 16, .inl g17))]) (w1 := [(h0, .inr (11, ((f0.set 12 (.int 0)).set 13 (.int 2)))), (h3, .inr (1, f1)), (h4, .inr (2, (f2.set 12 (.int 0)))), (h5, .inr (8, ((((((((((((((((((f3.set 3 (.int 0)).set 4 (.int 0)).set 5 (.int 0)).set 6 (.int (-1))).set 6 (.int 0)).set 7 (.int 0)).set 8 (.int 0)).set 11 (.int 25)).set 12 (.int 0)).set 13 (.int 0)).set 14 (.int 0)).set 3 (.int 2)).set 4 (.int 0)).set 7 (.int 44)).set 13 (.int 1)).set 13 (.int 2)).set 5 (.int 0)).set 7 (.int 44)))), (h7, .inr (3, ((((f4.set 6 (.ref h6)).set 7 (.int 0)).set 8 (.int 0)).set 5 (.int 0)))), (h9, .inl (cI, 2001, .inl (upd g0 0 0))), (h10, .inl (cI, 2001, .inl (upd g1 0 0))), (h11, .inl (cI, 260, .inl (upd (upd (upd g2 259 0) 250 0) 251 2))), (h12, .inl (cI, 13312, .inl (upd (upd g3 12800 43) 12801 43)))]) ⟨hx, hb, hml, hown, hts⟩ hN hX hAE hK hP hD hS hA [0, 1, 2, 3, 4, 5, 6, 7, 8] [9, 10, 11, 12, 13, 14, 15, 16, 17, 18, 19, 20, 21, 22, 23] (ci := 11) rfl rfl rfl rfl (by decide +kernel) (by decide +kernel) (by decide +kernel) (c_X11_extreme_0 l E D cI cJ cB cZ h0 f0 h3 f1 h4 f2 h5 h6 f3 h7 f4 h8 h9 h10 h11 h12 g0 g1 g2 g3 e1 e2 e3 e4 e5 e6 e7 e8 e9 e10 e11 e12 e13 e14 e15 e16 e17 e18 e19 e20 e21 e22 e23 e24 e25 e26 e27 e28 e29) (cwV 1 hts g9_L_law_X11_extreme_162 rfl rfl rfl (by decide +kernel) ⟨Nat.le_of_ble_eq_true rfl, Nat.le_of_ble_eq_true rfl⟩) rfl hl.1 (Nat.le_of_ble_eq_true rfl) dL_law_1185 ⟨Nat.le_of_ble_eq_true rfl, Nat.le_of_ble_eq_true rfl⟩ (fun H locs hP hD hS => ?_)
  have hP : va_P D vwCl [(h1, .inr (12, f5)), (h13, .inl (cI, 2001, .inl g4)), (h14, .inl (cI, 2001, .inl g5)), (h15, .inl (cI, 2001, .inl g6)), (h16, .inl (cI, 2001, .inl g7)), (h17, .inl (cI, 26, .inl g8)), (h18, .inl (cI, 26, .inl g9)), (h19, .inl (cI, 26, .inl g10)), (h20, .inl (cI, 26, .inl g11)), (h21, .inl (cI, 26, .inl g12)), (h22, .inl (cI, 16, .inl g13)), (h23, .inl (cI, 16, .inl g14)), (h24, .inl (cI, 16, .inl g15)), (h25, .inl (cJ, 16, .inr (.inl g16))), (h26, .inl (cI, 16, .inl g17)), (h0, .inr (11, ((f0.set 12 (.int 0)).set 13 (.int 2)))), (h3, .inr (1, f1)), (h4, .inr (2, (f2.set 12 (.int 0)))), (h5, .inr (8, ((((((((((((((((((f3.set 3 (.int 0)).set 4 (.int 0)).set 5 (.int 0)).set 6 (.int (-1))).set 6 (.int 0)).set 7 (.int 0)).set 8 (.int 0)).set 11 (.int 25)).set 12 (.int 0)).set 13 (.int 0)).set 14 (.int 0)).set 3 (.int 2)).set 4 (.int 0)).set 7 (.int 44)).set 13 (.int 1)).set 13 (.int 2)).set 5 (.int 0)).set 7 (.int 44)))), (h7, .inr (3, ((((f4.set 6 (.ref h6)).set 7 (.int 0)).set 8 (.int 0)).set 5 (.int 0)))), (h9, .inl (cI, 2001, .inl (upd g0 0 0))), (h10, .inl (cI, 2001, .inl (upd g1 0 0))), (h11, .inl (cI, 260, .inl (upd (upd (upd g2 259 0) 250 0) 251 2))), (h12, .inl (cI, 13312, .inl (upd (upd g3 12800 43) 12801 43)))] H := hP
  have hD : va_D A [(h1, .inr (12, f5)), (h13, .inl (cI, 2001, .inl g4)), (h14, .inl (cI, 2001, .inl g5)), (h15, .inl (cI, 2001, .inl g6)), (h16, .inl (cI, 2001, .inl g7)), (h17, .inl (cI, 26, .inl g8)), (h18, .inl (cI, 26, .inl g9)), (h19, .inl (cI, 26, .inl g10)), (h20, .inl (cI, 26, .inl g11)), (h21, .inl (cI, 26, .inl g12)), (h22, .inl (cI, 16, .inl g13)), (h23, .inl (cI, 16, .inl g14)), (h24, .inl (cI, 16, .inl g15)), (h25, .inl (cJ, 16, .inr (.inl g16))), (h26, .inl (cI, 16, .inl g17)), (h0, .inr (11, ((f0.set 12 (.int 0)).set 13 (.int 2)))), (h3, .inr (1, f1)), (h4, .inr (2, (f2.set 12 (.int 0)))), (h5, .inr (8, ((((((((((((((((((f3.set 3 (.int 0)).set 4 (.int 0)).set 5 (.int 0)).set 6 (.int (-1))).set 6 (.int 0)).set 7 (.int 0)).set 8 (.int 0)).set 11 (.int 25)).set 12 (.int 0)).set 13 (.int 0)).set 14 (.int 0)).set 3 (.int 2)).set 4 (.int 0)).set 7 (.int 44)).set 13 (.int 1)).set 13 (.int 2)).set 5 (.int 0)).set 7 (.int 44)))), (h7, .inr (3, ((((f4.set 6 (.ref h6)).set 7 (.int 0)).set 8 (.int 0)).set 5 (.int 0)))), (h9, .inl (cI, 2001, .inl (upd g0 0 0))), (h10, .inl (cI, 2001, .inl (upd g1 0 0))), (h11, .inl (cI, 260, .inl (upd (upd (upd g2 259 0) 250 0) 251 2))), (h12, .inl (cI, 13312, .inl (upd (upd g3 12800 43) 12801 43)))] := hD
  refine lv_aload_n hx hb dL_law_1188 rfl (lv_at hl 2 rfl) ?_
  refine lv_aload_n hx hb dL_law_1189 rfl (lv_at hl 0 rfl) ?_
  refine lv_iload hx hb dL_law_1190 (lv_at hl 4 rfl) ?_
  refine lv_iconst (v := 1) hx hb dL_law_1192 (by decide) ?_
  refine lv_iadd hx hb dL_law_1193 ?_
  refine k_topi (y := 1) (by decide) ?_
  refine va_sld (xs := xs) hx hb hXs hbl hbA hS (k_in (by decide)) dL_law_1194 ?_
  refine k_topi (y := (xs 1)) (congrArg xs (by decide)) ?_
  refine lv_if_eq (tgt := 1202) hx hb dL_law_1195 (by decide) (fun c9 => absurd c9 e0) (fun _ => ?_)
  refine lv_iconst (v := 1) hx hb dL_law_1198 (by decide) ?_
  refine lv_goto (tgt := 1203) hx hb dL_law_1199 (by decide) ?_
  refine k_cVi (As := [.int 1]) (rest := [.int (-1000)]) (wc := [(h1, .inr (12, f5)), (h13, .inl (cI, 2001, .inl g4)), (h14, .inl (cI, 2001, .inl g5)), (h15, .inl (cI, 2001, .inl g6)), (h16, .inl (cI, 2001, .inl g7)), (h17, .inl (cI, 26, .inl g8)), (h18, .inl (cI, 26, .inl g9)), (h19, .inl (cI, 26, .inl g10)), (h20, .inl (cI, 26, .inl g11)), (h21, .inl (cI, 26, .inl g12)), (h22, .inl (cI, 16, .inl g13)), (h23, .inl (cI, 16, .inl g14)), (h24, .inl (cI, 16, .inl g15)), (h25, .inl (cJ, 16, .inr (.inl g16))), (h26, .inl (cI, 16, .inl g17))]) (wr := [(h0, .inr (11, ((f0.set 12 (.int 0)).set 13 (.int 2)))), (h3, .inr (1, f1)), (h4, .inr (2, (f2.set 12 (.int 0)))), (h5, .inr (8, ((((((((((((((((((f3.set 3 (.int 0)).set 4 (.int 0)).set 5 (.int 0)).set 6 (.int (-1))).set 6 (.int 0)).set 7 (.int 0)).set 8 (.int 0)).set 11 (.int 25)).set 12 (.int 0)).set 13 (.int 0)).set 14 (.int 0)).set 3 (.int 2)).set 4 (.int 0)).set 7 (.int 44)).set 13 (.int 1)).set 13 (.int 2)).set 5 (.int 0)).set 7 (.int 44)))), (h7, .inr (3, ((((f4.set 6 (.ref h6)).set 7 (.int 0)).set 8 (.int 0)).set 5 (.int 0)))), (h9, .inl (cI, 2001, .inl (upd g0 0 0))), (h10, .inl (cI, 2001, .inl (upd g1 0 0))), (h11, .inl (cI, 260, .inl (upd (upd (upd g2 259 0) 250 0) 251 2))), (h12, .inl (cI, 13312, .inl (upd (upd g3 12800 43) 12801 43)))]) (w1 := [(h1, .inr (12, ((((((((((((((((((((f5.set 0 (.int 0)).set 12 (.int 0)).set 2 (.int 0)).set 36 (.int 0)).set 37 (.int 0)).set 27 (.int 0)).set 31 (.int 0)).set 28 (.int 0)).set 66 (.int 25)).set 67 (.int 0)).set 76 (.int (-1))).set 83 (.int (-1))).set 83 (.int 0)).set 84 (.int 3)).set 84 (.int 4)).set 84 (.int 5)).set 31 (.int 1)).set 29 (.int 2)).set 30 (.int 0)).set 109 (.int 2)))), (h13, .inl (cI, 2001, .inl (upd g4 0 0))), (h14, .inl (cI, 2001, .inl (upd g5 0 0))), (h15, .inl (cI, 2001, .inl (upd g6 0 0))), (h16, .inl (cI, 2001, .inl (upd g7 0 0))), (h17, .inl (cI, 26, .inl (upd g8 25 0))), (h18, .inl (cI, 26, .inl (upd g9 25 0))), (h19, .inl (cI, 26, .inl (upd g10 25 0))), (h20, .inl (cI, 26, .inl (upd g11 25 0))), (h21, .inl (cI, 26, .inl (upd g12 25 0))), (h22, .inl (cI, 16, .inl (upd g13 0 33))), (h23, .inl (cI, 16, .inl (upd g14 0 (-1)))), (h24, .inl (cI, 16, .inl (upd (upd g15 0 1) 0 1))), (h25, .inl (cJ, 16, .inr (.inl (vp_updL (vp_updL g16 0 1) 0 1)))), (h26, .inl (cI, 16, .inl (upd g17 0 (-1))))]) ⟨hx, hb, hml, hown, hts⟩ hN hX hAE hK hP hD hS hA [0, 1, 2, 3, 4, 5, 6, 7, 8, 9, 10, 11, 12, 13, 14] [15, 16, 17, 18, 19, 20, 21, 22, 23] (ci := 12) rfl rfl rfl rfl (by decide +kernel) (by decide +kernel) (by decide +kernel) (c_X12_extreme_0 l E D cI cJ cB cZ h1 f5 h13 h14 h15 h16 g4 g5 g6 g7 h17 h18 h19 h20 h21 g8 g9 g10 g11 g12 h22 h23 h24 h25 h26 g13 g14 g15 g16 g17 e30 e31 e32 e33 e34 e35 e36 e37 e38 e39 e40 e41 e42 e43 e44 e45 e46 e47 e48 e49 e50 e51 e52 e53 e54 e55 e56 e57 e58 e59 e60 e61 e62 e63 e64) (cwV 1 hts g9_L_law_X12_extreme_166 rfl rfl rfl (by decide +kernel) ⟨Nat.le_of_ble_eq_true rfl, Nat.le_of_ble_eq_true rfl⟩) rfl hl.1 (Nat.le_of_ble_eq_true rfl) dL_law_1203 ⟨Nat.le_of_ble_eq_true rfl, Nat.le_of_ble_eq_true rfl⟩ (fun H locs hP hD hS => ?_)
  have hP : va_P D vwCl [(h0, .inr (11, ((f0.set 12 (.int 0)).set 13 (.int 2)))), (h3, .inr (1, f1)), (h4, .inr (2, (f2.set 12 (.int 0)))), (h5, .inr (8, ((((((((((((((((((f3.set 3 (.int 0)).set 4 (.int 0)).set 5 (.int 0)).set 6 (.int (-1))).set 6 (.int 0)).set 7 (.int 0)).set 8 (.int 0)).set 11 (.int 25)).set 12 (.int 0)).set 13 (.int 0)).set 14 (.int 0)).set 3 (.int 2)).set 4 (.int 0)).set 7 (.int 44)).set 13 (.int 1)).set 13 (.int 2)).set 5 (.int 0)).set 7 (.int 44)))), (h7, .inr (3, ((((f4.set 6 (.ref h6)).set 7 (.int 0)).set 8 (.int 0)).set 5 (.int 0)))), (h9, .inl (cI, 2001, .inl (upd g0 0 0))), (h10, .inl (cI, 2001, .inl (upd g1 0 0))), (h11, .inl (cI, 260, .inl (upd (upd (upd g2 259 0) 250 0) 251 2))), (h12, .inl (cI, 13312, .inl (upd (upd g3 12800 43) 12801 43))), (h1, .inr (12, ((((((((((((((((((((f5.set 0 (.int 0)).set 12 (.int 0)).set 2 (.int 0)).set 36 (.int 0)).set 37 (.int 0)).set 27 (.int 0)).set 31 (.int 0)).set 28 (.int 0)).set 66 (.int 25)).set 67 (.int 0)).set 76 (.int (-1))).set 83 (.int (-1))).set 83 (.int 0)).set 84 (.int 3)).set 84 (.int 4)).set 84 (.int 5)).set 31 (.int 1)).set 29 (.int 2)).set 30 (.int 0)).set 109 (.int 2)))), (h13, .inl (cI, 2001, .inl (upd g4 0 0))), (h14, .inl (cI, 2001, .inl (upd g5 0 0))), (h15, .inl (cI, 2001, .inl (upd g6 0 0))), (h16, .inl (cI, 2001, .inl (upd g7 0 0))), (h17, .inl (cI, 26, .inl (upd g8 25 0))), (h18, .inl (cI, 26, .inl (upd g9 25 0))), (h19, .inl (cI, 26, .inl (upd g10 25 0))), (h20, .inl (cI, 26, .inl (upd g11 25 0))), (h21, .inl (cI, 26, .inl (upd g12 25 0))), (h22, .inl (cI, 16, .inl (upd g13 0 33))), (h23, .inl (cI, 16, .inl (upd g14 0 (-1)))), (h24, .inl (cI, 16, .inl (upd (upd g15 0 1) 0 1))), (h25, .inl (cJ, 16, .inr (.inl (vp_updL (vp_updL g16 0 1) 0 1)))), (h26, .inl (cI, 16, .inl (upd g17 0 (-1))))] H := hP
  have hD : va_D A [(h0, .inr (11, ((f0.set 12 (.int 0)).set 13 (.int 2)))), (h3, .inr (1, f1)), (h4, .inr (2, (f2.set 12 (.int 0)))), (h5, .inr (8, ((((((((((((((((((f3.set 3 (.int 0)).set 4 (.int 0)).set 5 (.int 0)).set 6 (.int (-1))).set 6 (.int 0)).set 7 (.int 0)).set 8 (.int 0)).set 11 (.int 25)).set 12 (.int 0)).set 13 (.int 0)).set 14 (.int 0)).set 3 (.int 2)).set 4 (.int 0)).set 7 (.int 44)).set 13 (.int 1)).set 13 (.int 2)).set 5 (.int 0)).set 7 (.int 44)))), (h7, .inr (3, ((((f4.set 6 (.ref h6)).set 7 (.int 0)).set 8 (.int 0)).set 5 (.int 0)))), (h9, .inl (cI, 2001, .inl (upd g0 0 0))), (h10, .inl (cI, 2001, .inl (upd g1 0 0))), (h11, .inl (cI, 260, .inl (upd (upd (upd g2 259 0) 250 0) 251 2))), (h12, .inl (cI, 13312, .inl (upd (upd g3 12800 43) 12801 43))), (h1, .inr (12, ((((((((((((((((((((f5.set 0 (.int 0)).set 12 (.int 0)).set 2 (.int 0)).set 36 (.int 0)).set 37 (.int 0)).set 27 (.int 0)).set 31 (.int 0)).set 28 (.int 0)).set 66 (.int 25)).set 67 (.int 0)).set 76 (.int (-1))).set 83 (.int (-1))).set 83 (.int 0)).set 84 (.int 3)).set 84 (.int 4)).set 84 (.int 5)).set 31 (.int 1)).set 29 (.int 2)).set 30 (.int 0)).set 109 (.int 2)))), (h13, .inl (cI, 2001, .inl (upd g4 0 0))), (h14, .inl (cI, 2001, .inl (upd g5 0 0))), (h15, .inl (cI, 2001, .inl (upd g6 0 0))), (h16, .inl (cI, 2001, .inl (upd g7 0 0))), (h17, .inl (cI, 26, .inl (upd g8 25 0))), (h18, .inl (cI, 26, .inl (upd g9 25 0))), (h19, .inl (cI, 26, .inl (upd g10 25 0))), (h20, .inl (cI, 26, .inl (upd g11 25 0))), (h21, .inl (cI, 26, .inl (upd g12 25 0))), (h22, .inl (cI, 16, .inl (upd g13 0 33))), (h23, .inl (cI, 16, .inl (upd g14 0 (-1)))), (h24, .inl (cI, 16, .inl (upd (upd g15 0 1) 0 1))), (h25, .inl (cJ, 16, .inr (.inl (vp_updL (vp_updL g16 0 1) 0 1)))), (h26, .inl (cI, 16, .inl (upd g17 0 (-1))))] := hD
  refine lv_icmp_eq (tgt := 1765) hx hb dL_law_1206 (by decide) (fun _ => ?_) (fun c9 => absurd (by decide) c9)
  refine W.widen (k := 601024) (n := 7293034) (Nat.le_of_ble_eq_true rfl) (Nat.le_of_ble_eq_true rfl) ?_
  exact T9 _ _ _ hS (lv_sub hl [0, 4] rfl)
set_option maxHeartbeats 400000000 in
set_option maxRecDepth 100000 in
theorem law_25_0 {p : Program} {l : Launch} {e : Env} {s : State} {m : MethodId} {below : List Frame} {meth : Method} {c : Code} {b : Nat} {xs : Nat → Int32} (E : kE) (D : va_G) (cI cJ cB cZ : ClassId) (A : Nat → Prop) (Q : State → Prop) (h0 : Nat) (h1 : Nat) (h2 : Nat) (f0 : List Value) (h3 : Nat) (f1 : List Value) (f2 : List Value) (e0 : f0[7]? = some (.ref h3)) (e1 : f1[13]? = some (.long 0)) (e2 : f2[0]? = some (.int 0)) (e3 : f2[144]? = some (.long 0)) (X9 : kLaw p l s m c b xs E D cI cJ cB cZ A) (T9 : kTail p l e s m b below meth c A Q) {H : Heap} {locs : List Loc} {ls : Array Slot} (hP : va_P D vwCl [(h0, .inr (11, f0)), (h3, .inr (0, f1)), (h1, .inr (12, f2))] H) (hD : va_D A [(h0, .inr (11, f0)), (h3, .inr (0, f1)), (h1, .inr (12, f2))]) (hS : va_S A s.heap H locs) (hl : lv_has ls 8 [(0, .ref b), (1, .ref h0), (2, .ref h1), (3, .ref h2), (4, .int 0)]) : W p l e room_1 s m #[Value.ref b] below meth c H locs 218 1205840 Q (F0 m 1211 ls []) := by
  obtain ⟨hl9, hx, hb, hml, hown, hts, hN, hX, hAE, hK, hA, hXs, hbl, hbA⟩ := X9
  refine lv_aload_n hx hb dL_law_1211 rfl (lv_at hl 1 rfl) ?_
  refine k_cVl (As := []) (rest := []) (wc := [(h0, .inr (11, f0)), (h3, .inr (0, f1))]) (wr := [(h1, .inr (12, f2))]) (w1 := [(h0, .inr (11, f0)), (h3, .inr (0, f1))]) ⟨hx, hb, hml, hown, hts⟩ hN hX hAE hK hP hD hS hA [0, 1] [2] (ci := 11) rfl rfl rfl rfl (by decide +kernel) (by decide +kernel) (by decide +kernel) (c_X11_number_0 l E D cI cJ cB cZ h0 f0 h3 f1 e0 e1) (cwV 0 hts g9_L_law_X11_number_167 rfl rfl rfl (by decide +kernel) ⟨Nat.le_of_ble_eq_true rfl, Nat.le_of_ble_eq_true rfl⟩) rfl hl.1 (Nat.le_of_ble_eq_true rfl) dL_law_1212 ⟨Nat.le_of_ble_eq_true rfl, Nat.le_of_ble_eq_true rfl⟩ (fun H locs hP hD hS => ?_)
  have hP : va_P D vwCl [(h1, .inr (12, f2)), (h0, .inr (11, f0)), (h3, .inr (0, f1))] H := hP
  have hD : va_D A [(h1, .inr (12, f2)), (h0, .inr (11, f0)), (h3, .inr (0, f1))] := hD
  refine lv_aload_n hx hb dL_law_1215 rfl (lv_at hl 2 rfl) ?_
  refine k_cVl (As := []) (rest := [.long 0]) (wc := [(h1, .inr (12, f2))]) (wr := [(h0, .inr (11, f0)), (h3, .inr (0, f1))]) (w1 := [(h1, .inr (12, (f2.set 0 (.int 0))))]) ⟨hx, hb, hml, hown, hts⟩ hN hX hAE hK hP hD hS hA [0] [1, 2] (ci := 12) rfl rfl rfl rfl (by decide +kernel) (by decide +kernel) (by decide +kernel) (c_X12_number_0 l E D cI cJ cB cZ h1 f2 e2 e3) (cwV 0 hts g9_L_law_X12_number_171 rfl rfl rfl (by decide +kernel) ⟨Nat.le_of_ble_eq_true rfl, Nat.le_of_ble_eq_true rfl⟩) rfl hl.1 (Nat.le_of_ble_eq_true rfl) dL_law_1216 ⟨Nat.le_of_ble_eq_true rfl, Nat.le_of_ble_eq_true rfl⟩ (fun H locs hP hD hS => ?_)
  have hP : va_P D vwCl [(h0, .inr (11, f0)), (h3, .inr (0, f1)), (h1, .inr (12, (f2.set 0 (.int 0))))] H := hP
  have hD : va_D A [(h0, .inr (11, f0)), (h3, .inr (0, f1)), (h1, .inr (12, (f2.set 0 (.int 0))))] := hD
  refine W.lcmp hx hb dL_law_1219 ?_
  refine k_topi (y := 0) (by decide) ?_
  refine lv_if_eq (tgt := 1765) hx hb dL_law_1220 (by decide) (fun _ => ?_) (fun c9 => absurd (by decide) c9)
  refine W.widen (k := 601024) (n := 7293034) (Nat.le_of_ble_eq_true rfl) (Nat.le_of_ble_eq_true rfl) ?_
  exact T9 _ _ _ hS (lv_sub hl [0, 4] rfl)
set_option maxHeartbeats 400000000 in
set_option maxRecDepth 100000 in
theorem law_26_0 {p : Program} {l : Launch} {e : Env} {s : State} {m : MethodId} {below : List Frame} {meth : Method} {c : Code} {b : Nat} {xs : Nat → Int32} (E : kE) (D : va_G) (cI cJ cB cZ : ClassId) (A : Nat → Prop) (Q : State → Prop) (h0 : Nat) (h1 : Nat) (h2 : Nat) (f0 : List Value) (h3 : Nat) (f1 : List Value) (h4 : Nat) (h5 : Nat) (f2 : List Value) (f3 : List Value) (h6 : Nat) (h7 : Nat) (h8 : Nat) (h9 : Nat) (f4 : List Value) (h10 : Nat) (h11 : Nat) (h12 : Nat) (h13 : Nat) (g0 : Nat → Int32) (g1 : Nat → Int32) (g2 : Nat → Int32) (g3 : Nat → Int32) (g4 : Nat → Int32) (g5 : Nat → Int64) (g6 : Nat → Int64) (f5 : List Value) (h14 : Nat) (h15 : Nat) (h16 : Nat) (h17 : Nat) (h18 : Nat) (h19 : Nat) (h20 : Nat) (h21 : Nat) (h22 : Nat) (h23 : Nat) (h24 : Nat) (h25 : Nat) (g7 : Nat → Int32) (g8 : Nat → Int32) (g9 : Nat → Int32) (g10 : Nat → Int32) (g11 : Nat → Int32) (g12 : Nat → Int32) (g13 : Nat → Int32) (g14 : Nat → Int32) (g15 : Nat → Int32) (g16 : Nat → Int32) (g17 : Nat → Int32) (g18 : Nat → Int64) (e0 : f0[1]? = some (.ref h3)) (e1 : f1[8]? = some (.int 0)) (e2 : f0[6]? = some (.ref h4)) (e3 : f0[2]? = some (.ref h5)) (e4 : f2[13]? = some (.int 0)) (e5 : f3[10]? = some (.int 0)) (e6 : f3[11]? = some (.int 0)) (e7 : f3[0]? = some (.ref h5)) (e8 : f2[10]? = some (.int 0)) (e9 : f3[12]? = some (.int 0)) (e10 : f3[9]? = some (.ref h6)) (e11 : f3[13]? = some (.int 0)) (e12 : f3[7]? = some (.ref h7)) (e13 : f3[8]? = some (.ref h8)) (e14 : f0[7]? = some (.ref h9)) (e15 : f4[1]? = some (.ref h4)) (e16 : f4[5]? = some (.ref h10)) (e17 : f4[4]? = some (.ref h11)) (e18 : f4[7]? = some (.ref h12)) (e19 : f4[8]? = some (.ref h13)) (e20 : f5[0]? = some (.int 0)) (e21 : f5[5]? = some (.int 0)) (e22 : f5[119]? = some (.int 0)) (e23 : f5[121]? = some (.ref h14)) (e24 : f5[33]? = some (.int 0)) (e25 : f5[32]? = some (.int 0)) (e26 : f5[131]? = some (.int 0)) (e27 : f5[127]? = some (.ref h15)) (e28 : f5[129]? = some (.int 0)) (e29 : f5[128]? = some (.ref h16)) (e30 : f5[126]? = some (.ref h17)) (e31 : f5[136]? = some (.ref h18)) (e32 : f5[132]? = some (.ref h19)) (e33 : f5[133]? = some (.ref h20)) (e34 : f5[135]? = some (.ref h21)) (e35 : f5[147]? = some (.ref h22)) (e36 : f5[145]? = some (.ref h23)) (e37 : f5[148]? = some (.ref h24)) (e38 : f5[146]? = some (.ref h25)) (X9 : kLaw p l s m c b xs E D cI cJ cB cZ A) (T9 : kTail p l e s m b below meth c A Q) {H : Heap} {locs : List Loc} {ls : Array Slot} (hP : va_P D vwCl [(h0, .inr (11, f0)), (h3, .inr (1, f1)), (h5, .inr (2, f2)), (h4, .inr (6, f3)), (h9, .inr (0, f4)), (h6, .inl (cI, 8192, .inl g0)), (h7, .inl (cI, 48000, .inl g1)), (h8, .inl (cI, 48000, .inl g2)), (h10, .inl (cI, 3000, .inl g3)), (h11, .inl (cI, 3000, .inl g4)), (h12, .inl (cJ, 3000, .inr (.inl g5))), (h13, .inl (cJ, 3000, .inr (.inl g6))), (h1, .inr (12, f5)), (h14, .inl (cZ, 26, .inl g7)), (h15, .inl (cI, 32768, .inl g8)), (h16, .inl (cI, 3000, .inl g9)), (h17, .inl (cI, 48000, .inl g10)), (h18, .inl (cI, 4096, .inl g11)), (h19, .inl (cI, 3000, .inl g12)), (h20, .inl (cI, 3000, .inl g13)), (h21, .inl (cI, 4096, .inl g14)), (h22, .inl (cZ, 3000, .inl g15)), (h23, .inl (cI, 3000, .inl g16)), (h24, .inl (cI, 3000, .inl g17)), (h25, .inl (cJ, 3000, .inr (.inl g18)))] H) (hD : va_D A [(h0, .inr (11, f0)), (h3, .inr (1, f1)), (h5, .inr (2, f2)), (h4, .inr (6, f3)), (h9, .inr (0, f4)), (h6, .inl (cI, 8192, .inl g0)), (h7, .inl (cI, 48000, .inl g1)), (h8, .inl (cI, 48000, .inl g2)), (h10, .inl (cI, 3000, .inl g3)), (h11, .inl (cI, 3000, .inl g4)), (h12, .inl (cJ, 3000, .inr (.inl g5))), (h13, .inl (cJ, 3000, .inr (.inl g6))), (h1, .inr (12, f5)), (h14, .inl (cZ, 26, .inl g7)), (h15, .inl (cI, 32768, .inl g8)), (h16, .inl (cI, 3000, .inl g9)), (h17, .inl (cI, 48000, .inl g10)), (h18, .inl (cI, 4096, .inl g11)), (h19, .inl (cI, 3000, .inl g12)), (h20, .inl (cI, 3000, .inl g13)), (h21, .inl (cI, 4096, .inl g14)), (h22, .inl (cZ, 3000, .inl g15)), (h23, .inl (cI, 3000, .inl g16)), (h24, .inl (cI, 3000, .inl g17)), (h25, .inl (cJ, 3000, .inr (.inl g18)))]) (hS : va_S A s.heap H locs) (hl : lv_has ls 8 [(0, .ref b), (1, .ref h0), (2, .ref h1), (3, .ref h2), (4, .int 0)]) : W p l e room_1 s m #[Value.ref b] below meth c H locs 218 1205840 Q (F0 m 1225 ls []) := by
  obtain ⟨hl9, hx, hb, hml, hown, hts, hN, hX, hAE, hK, hA, hXs, hbl, hbA⟩ := X9
  refine lv_aload_n hx hb dL_law_1225 rfl (lv_at hl 1 rfl) ?_
  refine k_cVi (As := []) (rest := []) (wc := [(h0, .inr (11, f0)), (h3, .inr (1, f1)), (h5, .inr (2, f2)), (h4, .inr (6, f3)), (h6, .inl (cI, 8192, .inl g0)), (h7, .inl (cI, 48000, .inl g1)), (h8, .inl (cI, 48000, .inl g2)), (h9, .inr (0, f4)), (h10, .inl (cI, 3000, .inl g3)), (h11, .inl (cI, 3000, .inl g4)), (h12, .inl (cJ, 3000, .inr (.inl g5))), (h13, .inl (cJ, 3000, .inr (.inl g6)))]) (wr := [(h1, .inr (12, f5)), (h14, .inl (cZ, 26, .inl g7)), (h15, .inl (cI, 32768, .inl g8)), (h16, .inl (cI, 3000, .inl g9)), (h17, .inl (cI, 48000, .inl g10)), (h18, .inl (cI, 4096, .inl g11)), (h19, .inl (cI, 3000, .inl g12)), (h20, .inl (cI, 3000, .inl g13)), (h21, .inl (cI, 4096, .inl g14)), (h22, .inl (cZ, 3000, .inl g15)), (h23, .inl (cI, 3000, .inl g16)), (h24, .inl (cI, 3000, .inl g17)), (h25, .inl (cJ, 3000, .inr (.inl g18)))]) (w1 := [(h0, .inr (11, f0)), (h3, .inr (1, f1)), (h5, .inr (2, f2)), (h4, .inr (6, ((((((((((((((((((((((((((((((f3.set 10 (.int 0)).set 11 (.int 0)).set 12 (.int 1)).set 11 (.int 0)).set 11 (.int 0)).set 11 (.int 0)).set 11 (.int 0)).set 11 (.int 0)).set 11 (.int 0)).set 11 (.int 0)).set 11 (.int 0)).set 11 (.int 0)).set 11 (.int 0)).set 11 (.int 0)).set 11 (.int 0)).set 11 (.int 0)).set 11 (.int 0)).set 11 (.int 0)).set 11 (.int 0)).set 11 (.int 0)).set 11 (.int 0)).set 11 (.int 0)).set 11 (.int 0)).set 11 (.int 0)).set 11 (.int 0)).set 11 (.int 0)).set 11 (.int 0)).set 11 (.int 0)).set 13 (.int 0)).set 13 (.int 1)))), (h6, .inl (cI, 8192, .inl (upd (k_fill 0 8192 g0) 782 1))), (h7, .inl (cI, 48000, .inl (upd g1 0 0))), (h8, .inl (cI, 48000, .inl (upd g2 0 0))), (h9, .inr (0, f4)), (h10, .inl (cI, 3000, .inl (upd g3 0 1))), (h11, .inl (cI, 3000, .inl (upd (upd g4 0 0) 0 0))), (h12, .inl (cJ, 3000, .inr (.inl (vp_updL (vp_updL g5 0 1) 0 1)))), (h13, .inl (cJ, 3000, .inr (.inl (vp_updL g6 0 1))))]) ⟨hx, hb, hml, hown, hts⟩ hN hX hAE hK hP hD hS hA [0, 1, 2, 3, 5, 6, 7, 4, 8, 9, 10, 11] [12, 13, 14, 15, 16, 17, 18, 19, 20, 21, 22, 23, 24] (ci := 11) rfl rfl rfl rfl (by decide +kernel) (by decide +kernel) (by decide +kernel) (c_X11_many_0 l E D cI cJ cB cZ h0 f0 h3 f1 h4 h5 f2 f3 h6 h7 h8 g0 g1 g2 h9 f4 h10 h11 h12 h13 g3 g4 g5 g6 e0 e1 e2 e3 e4 e5 e6 e7 e8 e9 e10 e11 e12 e13 e14 e15 e16 e17 e18 e19) (cwV 0 hts g9_L_law_X11_many_172 rfl rfl rfl (by decide +kernel) ⟨Nat.le_of_ble_eq_true rfl, Nat.le_of_ble_eq_true rfl⟩) rfl hl.1 (Nat.le_of_ble_eq_true rfl) dL_law_1226 ⟨Nat.le_of_ble_eq_true rfl, Nat.le_of_ble_eq_true rfl⟩ (fun H locs hP hD hS => ?_)
  have hP : va_P D vwCl [(h1, .inr (12, f5)), (h14, .inl (cZ, 26, .inl g7)), (h15, .inl (cI, 32768, .inl g8)), (h16, .inl (cI, 3000, .inl g9)), (h17, .inl (cI, 48000, .inl g10)), (h18, .inl (cI, 4096, .inl g11)), (h19, .inl (cI, 3000, .inl g12)), (h20, .inl (cI, 3000, .inl g13)), (h21, .inl (cI, 4096, .inl g14)), (h22, .inl (cZ, 3000, .inl g15)), (h23, .inl (cI, 3000, .inl g16)), (h24, .inl (cI, 3000, .inl g17)), (h25, .inl (cJ, 3000, .inr (.inl g18))), (h0, .inr (11, f0)), (h3, .inr (1, f1)), (h5, .inr (2, f2)), (h4, .inr (6, ((((((((((((((((((((((((((((((f3.set 10 (.int 0)).set 11 (.int 0)).set 12 (.int 1)).set 11 (.int 0)).set 11 (.int 0)).set 11 (.int 0)).set 11 (.int 0)).set 11 (.int 0)).set 11 (.int 0)).set 11 (.int 0)).set 11 (.int 0)).set 11 (.int 0)).set 11 (.int 0)).set 11 (.int 0)).set 11 (.int 0)).set 11 (.int 0)).set 11 (.int 0)).set 11 (.int 0)).set 11 (.int 0)).set 11 (.int 0)).set 11 (.int 0)).set 11 (.int 0)).set 11 (.int 0)).set 11 (.int 0)).set 11 (.int 0)).set 11 (.int 0)).set 11 (.int 0)).set 11 (.int 0)).set 13 (.int 0)).set 13 (.int 1)))), (h6, .inl (cI, 8192, .inl (upd (k_fill 0 8192 g0) 782 1))), (h7, .inl (cI, 48000, .inl (upd g1 0 0))), (h8, .inl (cI, 48000, .inl (upd g2 0 0))), (h9, .inr (0, f4)), (h10, .inl (cI, 3000, .inl (upd g3 0 1))), (h11, .inl (cI, 3000, .inl (upd (upd g4 0 0) 0 0))), (h12, .inl (cJ, 3000, .inr (.inl (vp_updL (vp_updL g5 0 1) 0 1)))), (h13, .inl (cJ, 3000, .inr (.inl (vp_updL g6 0 1))))] H := hP
  have hD : va_D A [(h1, .inr (12, f5)), (h14, .inl (cZ, 26, .inl g7)), (h15, .inl (cI, 32768, .inl g8)), (h16, .inl (cI, 3000, .inl g9)), (h17, .inl (cI, 48000, .inl g10)), (h18, .inl (cI, 4096, .inl g11)), (h19, .inl (cI, 3000, .inl g12)), (h20, .inl (cI, 3000, .inl g13)), (h21, .inl (cI, 4096, .inl g14)), (h22, .inl (cZ, 3000, .inl g15)), (h23, .inl (cI, 3000, .inl g16)), (h24, .inl (cI, 3000, .inl g17)), (h25, .inl (cJ, 3000, .inr (.inl g18))), (h0, .inr (11, f0)), (h3, .inr (1, f1)), (h5, .inr (2, f2)), (h4, .inr (6, ((((((((((((((((((((((((((((((f3.set 10 (.int 0)).set 11 (.int 0)).set 12 (.int 1)).set 11 (.int 0)).set 11 (.int 0)).set 11 (.int 0)).set 11 (.int 0)).set 11 (.int 0)).set 11 (.int 0)).set 11 (.int 0)).set 11 (.int 0)).set 11 (.int 0)).set 11 (.int 0)).set 11 (.int 0)).set 11 (.int 0)).set 11 (.int 0)).set 11 (.int 0)).set 11 (.int 0)).set 11 (.int 0)).set 11 (.int 0)).set 11 (.int 0)).set 11 (.int 0)).set 11 (.int 0)).set 11 (.int 0)).set 11 (.int 0)).set 11 (.int 0)).set 11 (.int 0)).set 11 (.int 0)).set 13 (.int 0)).set 13 (.int 1)))), (h6, .inl (cI, 8192, .inl (upd (k_fill 0 8192 g0) 782 1))), (h7, .inl (cI, 48000, .inl (upd g1 0 0))), (h8, .inl (cI, 48000, .inl (upd g2 0 0))), (h9, .inr (0, f4)), (h10, .inl (cI, 3000, .inl (upd g3 0 1))), (h11, .inl (cI, 3000, .inl (upd (upd g4 0 0) 0 0))), (h12, .inl (cJ, 3000, .inr (.inl (vp_updL (vp_updL g5 0 1) 0 1)))), (h13, .inl (cJ, 3000, .inr (.inl (vp_updL g6 0 1))))] := hD
  refine lv_aload_n hx hb dL_law_1229 rfl (lv_at hl 2 rfl) ?_
  refine k_cVi (As := []) (rest := [.int 1]) (wc := [(h1, .inr (12, f5)), (h14, .inl (cZ, 26, .inl g7)), (h15, .inl (cI, 32768, .inl g8)), (h16, .inl (cI, 3000, .inl g9)), (h17, .inl (cI, 48000, .inl g10)), (h18, .inl (cI, 4096, .inl g11)), (h19, .inl (cI, 3000, .inl g12)), (h20, .inl (cI, 3000, .inl g13)), (h21, .inl (cI, 4096, .inl g14)), (h22, .inl (cZ, 3000, .inl g15)), (h23, .inl (cI, 3000, .inl g16)), (h24, .inl (cI, 3000, .inl g17)), (h25, .inl (cJ, 3000, .inr (.inl g18)))]) (wr := [(h0, .inr (11, f0)), (h3, .inr (1, f1)), (h5, .inr (2, f2)), (h4, .inr (6, ((((((((((((((((((((((((((((((f3.set 10 (.int 0)).set 11 (.int 0)).set 12 (.int 1)).set 11 (.int 0)).set 11 (.int 0)).set 11 (.int 0)).set 11 (.int 0)).set 11 (.int 0)).set 11 (.int 0)).set 11 (.int 0)).set 11 (.int 0)).set 11 (.int 0)).set 11 (.int 0)).set 11 (.int 0)).set 11 (.int 0)).set 11 (.int 0)).set 11 (.int 0)).set 11 (.int 0)).set 11 (.int 0)).set 11 (.int 0)).set 11 (.int 0)).set 11 (.int 0)).set 11 (.int 0)).set 11 (.int 0)).set 11 (.int 0)).set 11 (.int 0)).set 11 (.int 0)).set 11 (.int 0)).set 13 (.int 0)).set 13 (.int 1)))), (h6, .inl (cI, 8192, .inl (upd (k_fill 0 8192 g0) 782 1))), (h7, .inl (cI, 48000, .inl (upd g1 0 0))), (h8, .inl (cI, 48000, .inl (upd g2 0 0))), (h9, .inr (0, f4)), (h10, .inl (cI, 3000, .inl (upd g3 0 1))), (h11, .inl (cI, 3000, .inl (upd (upd g4 0 0) 0 0))), (h12, .inl (cJ, 3000, .inr (.inl (vp_updL (vp_updL g5 0 1) 0 1)))), (h13, .inl (cJ, 3000, .inr (.inl (vp_updL g6 0 1))))]) (w1 := [(h1, .inr (12, (((((f5.set 0 (.int 0)).set 119 (.int 0)).set 131 (.int 1)).set 129 (.int 0)).set 129 (.int 1)))), (h14, .inl (cZ, 26, .inl (upd (upd (upd (upd (upd (upd (upd (upd (upd (upd (upd (upd (upd (upd (upd (upd (upd (upd (upd (upd (upd (upd (upd (upd (upd (upd g7 0 0) 1 0) 2 0) 3 0) 4 0) 5 0) 6 0) 7 0) 8 0) 9 0) 10 0) 11 0) 12 0) 13 0) 14 0) 15 0) 16 0) 17 0) 18 0) 19 0) 20 0) 21 0) 22 0) 23 0) 24 0) 25 0))), (h15, .inl (cI, 32768, .inl (upd (k_fill (-1) 32768 g8) 17 0))), (h16, .inl (cI, 3000, .inl (upd g9 0 (-1)))), (h17, .inl (cI, 48000, .inl (upd g10 0 0))), (h18, .inl (cI, 4096, .inl (upd (k_fill (-1) 4096 g11) 0 1))), (h19, .inl (cI, 3000, .inl (upd (upd g12 0 0) 0 1))), (h20, .inl (cI, 3000, .inl (upd (upd g13 0 0) 0 0))), (h21, .inl (cI, 4096, .inl (upd g14 0 0))), (h22, .inl (cZ, 3000, .inl (upd g15 0 0))), (h23, .inl (cI, 3000, .inl (upd g16 0 0))), (h24, .inl (cI, 3000, .inl (upd g17 0 1))), (h25, .inl (cJ, 3000, .inr (.inl (vp_updL g18 0 0))))]) ⟨hx, hb, hml, hown, hts⟩ hN hX hAE hK hP hD hS hA [0, 1, 2, 3, 4, 5, 6, 7, 8, 9, 10, 11, 12] [13, 14, 15, 16, 17, 18, 19, 20, 21, 22, 23, 24] (ci := 12) rfl rfl rfl rfl (by decide +kernel) (by decide +kernel) (by decide +kernel) (c_X12_many_0 l E D cI cJ cB cZ h1 f5 h14 g7 h15 h16 h17 g8 g9 g10 h18 h19 h20 h21 g11 g12 g13 g14 h22 g15 h23 g16 h24 g17 h25 g18 e20 e21 e22 e23 e24 e25 e26 e27 e28 e29 e30 e31 e32 e33 e34 e35 e36 e37 e38) (cwV 0 hts g9_L_law_X12_many_175 rfl rfl rfl (by decide +kernel) ⟨Nat.le_of_ble_eq_true rfl, Nat.le_of_ble_eq_true rfl⟩) rfl hl.1 (Nat.le_of_ble_eq_true rfl) dL_law_1230 ⟨Nat.le_of_ble_eq_true rfl, Nat.le_of_ble_eq_true rfl⟩ (fun H locs hP hD hS => ?_)
  have hP : va_P D vwCl [(h0, .inr (11, f0)), (h3, .inr (1, f1)), (h5, .inr (2, f2)), (h4, .inr (6, ((((((((((((((((((((((((((((((f3.set 10 (.int 0)).set 11 (.int 0)).set 12 (.int 1)).set 11 (.int 0)).set 11 (.int 0)).set 11 (.int 0)).set 11 (.int 0)).set 11 (.int 0)).set 11 (.int 0)).set 11 (.int 0)).set 11 (.int 0)).set 11 (.int 0)).set 11 (.int 0)).set 11 (.int 0)).set 11 (.int 0)).set 11 (.int 0)).set 11 (.int 0)).set 11 (.int 0)).set 11 (.int 0)).set 11 (.int 0)).set 11 (.int 0)).set 11 (.int 0)).set 11 (.int 0)).set 11 (.int 0)).set 11 (.int 0)).set 11 (.int 0)).set 11 (.int 0)).set 11 (.int 0)).set 13 (.int 0)).set 13 (.int 1)))), (h6, .inl (cI, 8192, .inl (upd (k_fill 0 8192 g0) 782 1))), (h7, .inl (cI, 48000, .inl (upd g1 0 0))), (h8, .inl (cI, 48000, .inl (upd g2 0 0))), (h9, .inr (0, f4)), (h10, .inl (cI, 3000, .inl (upd g3 0 1))), (h11, .inl (cI, 3000, .inl (upd (upd g4 0 0) 0 0))), (h12, .inl (cJ, 3000, .inr (.inl (vp_updL (vp_updL g5 0 1) 0 1)))), (h13, .inl (cJ, 3000, .inr (.inl (vp_updL g6 0 1)))), (h1, .inr (12, (((((f5.set 0 (.int 0)).set 119 (.int 0)).set 131 (.int 1)).set 129 (.int 0)).set 129 (.int 1)))), (h14, .inl (cZ, 26, .inl (upd (upd (upd (upd (upd (upd (upd (upd (upd (upd (upd (upd (upd (upd (upd (upd (upd (upd (upd (upd (upd (upd (upd (upd (upd (upd g7 0 0) 1 0) 2 0) 3 0) 4 0) 5 0) 6 0) 7 0) 8 0) 9 0) 10 0) 11 0) 12 0) 13 0) 14 0) 15 0) 16 0) 17 0) 18 0) 19 0) 20 0) 21 0) 22 0) 23 0) 24 0) 25 0))), (h15, .inl (cI, 32768, .inl (upd (k_fill (-1) 32768 g8) 17 0))), (h16, .inl (cI, 3000, .inl (upd g9 0 (-1)))), (h17, .inl (cI, 48000, .inl (upd g10 0 0))), (h18, .inl (cI, 4096, .inl (upd (k_fill (-1) 4096 g11) 0 1))), (h19, .inl (cI, 3000, .inl (upd (upd g12 0 0) 0 1))), (h20, .inl (cI, 3000, .inl (upd (upd g13 0 0) 0 0))), (h21, .inl (cI, 4096, .inl (upd g14 0 0))), (h22, .inl (cZ, 3000, .inl (upd g15 0 0))), (h23, .inl (cI, 3000, .inl (upd g16 0 0))), (h24, .inl (cI, 3000, .inl (upd g17 0 1))), (h25, .inl (cJ, 3000, .inr (.inl (vp_updL g18 0 0))))] H := hP
  have hD : va_D A [(h0, .inr (11, f0)), (h3, .inr (1, f1)), (h5, .inr (2, f2)), (h4, .inr (6, ((((((((((((((((((((((((((((((f3.set 10 (.int 0)).set 11 (.int 0)).set 12 (.int 1)).set 11 (.int 0)).set 11 (.int 0)).set 11 (.int 0)).set 11 (.int 0)).set 11 (.int 0)).set 11 (.int 0)).set 11 (.int 0)).set 11 (.int 0)).set 11 (.int 0)).set 11 (.int 0)).set 11 (.int 0)).set 11 (.int 0)).set 11 (.int 0)).set 11 (.int 0)).set 11 (.int 0)).set 11 (.int 0)).set 11 (.int 0)).set 11 (.int 0)).set 11 (.int 0)).set 11 (.int 0)).set 11 (.int 0)).set 11 (.int 0)).set 11 (.int 0)).set 11 (.int 0)).set 11 (.int 0)).set 13 (.int 0)).set 13 (.int 1)))), (h6, .inl (cI, 8192, .inl (upd (k_fill 0 8192 g0) 782 1))), (h7, .inl (cI, 48000, .inl (upd g1 0 0))), (h8, .inl (cI, 48000, .inl (upd g2 0 0))), (h9, .inr (0, f4)), (h10, .inl (cI, 3000, .inl (upd g3 0 1))), (h11, .inl (cI, 3000, .inl (upd (upd g4 0 0) 0 0))), (h12, .inl (cJ, 3000, .inr (.inl (vp_updL (vp_updL g5 0 1) 0 1)))), (h13, .inl (cJ, 3000, .inr (.inl (vp_updL g6 0 1)))), (h1, .inr (12, (((((f5.set 0 (.int 0)).set 119 (.int 0)).set 131 (.int 1)).set 129 (.int 0)).set 129 (.int 1)))), (h14, .inl (cZ, 26, .inl (upd (upd (upd (upd (upd (upd (upd (upd (upd (upd (upd (upd (upd (upd (upd (upd (upd (upd (upd (upd (upd (upd (upd (upd (upd (upd g7 0 0) 1 0) 2 0) 3 0) 4 0) 5 0) 6 0) 7 0) 8 0) 9 0) 10 0) 11 0) 12 0) 13 0) 14 0) 15 0) 16 0) 17 0) 18 0) 19 0) 20 0) 21 0) 22 0) 23 0) 24 0) 25 0))), (h15, .inl (cI, 32768, .inl (upd (k_fill (-1) 32768 g8) 17 0))), (h16, .inl (cI, 3000, .inl (upd g9 0 (-1)))), (h17, .inl (cI, 48000, .inl (upd g10 0 0))), (h18, .inl (cI, 4096, .inl (upd (k_fill (-1) 4096 g11) 0 1))), (h19, .inl (cI, 3000, .inl (upd (upd g12 0 0) 0 1))), (h20, .inl (cI, 3000, .inl (upd (upd g13 0 0) 0 0))), (h21, .inl (cI, 4096, .inl (upd g14 0 0))), (h22, .inl (cZ, 3000, .inl (upd g15 0 0))), (h23, .inl (cI, 3000, .inl (upd g16 0 0))), (h24, .inl (cI, 3000, .inl (upd g17 0 1))), (h25, .inl (cJ, 3000, .inr (.inl (vp_updL g18 0 0))))] := hD
  refine lv_icmp_eq (tgt := 1765) hx hb dL_law_1233 (by decide) (fun _ => ?_) (fun c9 => absurd (by decide) c9)
  refine W.widen (k := 601024) (n := 7293034) (Nat.le_of_ble_eq_true rfl) (Nat.le_of_ble_eq_true rfl) ?_
  exact T9 _ _ _ hS (lv_sub hl [0, 4] rfl)
