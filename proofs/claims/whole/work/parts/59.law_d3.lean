theorem d_law_688 : decode code 688 = .ok (.iload_n 3, 1) := by decide +kernel
theorem d_law_689 : decode code 689 = .ok (.iconst 1, 1) := by decide +kernel
theorem d_law_690 : decode code 690 = .ok (.iadd, 1) := by decide +kernel
theorem d_law_691 : decode code 691 = .ok (.iaload, 1) := by decide +kernel
theorem d_law_692 : decode code 692 = .ok (.aload_n 0, 1) := by decide +kernel
theorem d_law_693 : decode code 693 = .ok (.iload_n 3, 1) := by decide +kernel
theorem d_law_694 : decode code 694 = .ok (.iconst 2, 1) := by decide +kernel
theorem d_law_695 : decode code 695 = .ok (.iadd, 1) := by decide +kernel
theorem d_law_696 : decode code 696 = .ok (.iaload, 1) := by decide +kernel
theorem d_law_697 : decode code 697 = .ok (.invokevirtual 83, 3) := by decide +kernel
theorem d_law_700 : decode code 700 = .ok (.if_icmp .eq 180, 3) := by decide +kernel
theorem d_law_703 : decode code 703 = .ok (.iconst 0, 1) := by decide +kernel
theorem d_law_704 : decode code 704 = .ok (.ireturn, 1) := by decide +kernel
theorem d_law_705 : decode code 705 = .ok (.aload_n 1, 1) := by decide +kernel
theorem d_law_706 : decode code 706 = .ok (.aload_n 0, 1) := by decide +kernel
theorem d_law_707 : decode code 707 = .ok (.iload_n 3, 1) := by decide +kernel
theorem d_law_708 : decode code 708 = .ok (.iconst 1, 1) := by decide +kernel
theorem d_law_709 : decode code 709 = .ok (.iadd, 1) := by decide +kernel
theorem d_law_710 : decode code 710 = .ok (.iaload, 1) := by decide +kernel
theorem d_law_711 : decode code 711 = .ok (.invokevirtual 84, 3) := by decide +kernel
theorem d_law_714 : decode code 714 = .ok (.aload_n 2, 1) := by decide +kernel
theorem d_law_715 : decode code 715 = .ok (.aload_n 0, 1) := by decide +kernel
theorem d_law_716 : decode code 716 = .ok (.iload_n 3, 1) := by decide +kernel
theorem d_law_717 : decode code 717 = .ok (.iconst 1, 1) := by decide +kernel
theorem d_law_718 : decode code 718 = .ok (.iadd, 1) := by decide +kernel
theorem d_law_719 : decode code 719 = .ok (.iaload, 1) := by decide +kernel
theorem d_law_720 : decode code 720 = .ok (.invokevirtual 87, 3) := by decide +kernel
theorem d_law_723 : decode code 723 = .ok (.if_icmp .eq 157, 3) := by decide +kernel
theorem d_law_726 : decode code 726 = .ok (.iconst 0, 1) := by decide +kernel
theorem d_law_727 : decode code 727 = .ok (.ireturn, 1) := by decide +kernel
theorem d_law_728 : decode code 728 = .ok (.aload_n 1, 1) := by decide +kernel
theorem d_law_729 : decode code 729 = .ok (.aload_n 0, 1) := by decide +kernel
theorem d_law_730 : decode code 730 = .ok (.iload_n 3, 1) := by decide +kernel
theorem d_law_731 : decode code 731 = .ok (.iconst 1, 1) := by decide +kernel
theorem d_law_732 : decode code 732 = .ok (.iadd, 1) := by decide +kernel
theorem d_law_733 : decode code 733 = .ok (.iaload, 1) := by decide +kernel
theorem d_law_734 : decode code 734 = .ok (.aload_n 0, 1) := by decide +kernel
theorem d_law_735 : decode code 735 = .ok (.iload_n 3, 1) := by decide +kernel
theorem d_law_736 : decode code 736 = .ok (.iconst 2, 1) := by decide +kernel
theorem d_law_737 : decode code 737 = .ok (.iadd, 1) := by decide +kernel
theorem d_law_738 : decode code 738 = .ok (.iaload, 1) := by decide +kernel
theorem d_law_739 : decode code 739 = .ok (.aload_n 0, 1) := by decide +kernel
theorem d_law_740 : decode code 740 = .ok (.iload_n 3, 1) := by decide +kernel
theorem d_law_741 : decode code 741 = .ok (.iconst 3, 1) := by decide +kernel
theorem d_law_742 : decode code 742 = .ok (.iadd, 1) := by decide +kernel
theorem d_law_743 : decode code 743 = .ok (.iaload, 1) := by decide +kernel
theorem d_law_744 : decode code 744 = .ok (.invokevirtual 88, 3) := by decide +kernel
theorem d_law_747 : decode code 747 = .ok (.aload_n 2, 1) := by decide +kernel
theorem d_law_748 : decode code 748 = .ok (.aload_n 0, 1) := by decide +kernel
theorem d_law_749 : decode code 749 = .ok (.iload_n 3, 1) := by decide +kernel
theorem d_law_750 : decode code 750 = .ok (.iconst 1, 1) := by decide +kernel
theorem d_law_751 : decode code 751 = .ok (.iadd, 1) := by decide +kernel
theorem d_law_752 : decode code 752 = .ok (.iaload, 1) := by decide +kernel
theorem d_law_753 : decode code 753 = .ok (.aload_n 0, 1) := by decide +kernel
theorem d_law_754 : decode code 754 = .ok (.iload_n 3, 1) := by decide +kernel
theorem d_law_755 : decode code 755 = .ok (.iconst 2, 1) := by decide +kernel
theorem d_law_756 : decode code 756 = .ok (.iadd, 1) := by decide +kernel
theorem d_law_757 : decode code 757 = .ok (.iaload, 1) := by decide +kernel
theorem d_law_758 : decode code 758 = .ok (.aload_n 0, 1) := by decide +kernel
theorem d_law_759 : decode code 759 = .ok (.iload_n 3, 1) := by decide +kernel
theorem d_law_760 : decode code 760 = .ok (.iconst 3, 1) := by decide +kernel
theorem d_law_761 : decode code 761 = .ok (.iadd, 1) := by decide +kernel
theorem d_law_762 : decode code 762 = .ok (.iaload, 1) := by decide +kernel
theorem d_law_763 : decode code 763 = .ok (.invokevirtual 91, 3) := by decide +kernel
theorem d_law_766 : decode code 766 = .ok (.if_icmp .eq 114, 3) := by decide +kernel
theorem d_law_769 : decode code 769 = .ok (.iconst 0, 1) := by decide +kernel
theorem d_law_770 : decode code 770 = .ok (.ireturn, 1) := by decide +kernel
theorem d_law_771 : decode code 771 = .ok (.aload_n 1, 1) := by decide +kernel
theorem d_law_772 : decode code 772 = .ok (.aload_n 0, 1) := by decide +kernel
theorem d_law_773 : decode code 773 = .ok (.iload_n 3, 1) := by decide +kernel
theorem d_law_774 : decode code 774 = .ok (.iconst 1, 1) := by decide +kernel
theorem d_law_775 : decode code 775 = .ok (.iadd, 1) := by decide +kernel
theorem d_law_776 : decode code 776 = .ok (.iaload, 1) := by decide +kernel
theorem d_law_777 : decode code 777 = .ok (.aload_n 0, 1) := by decide +kernel
theorem d_law_778 : decode code 778 = .ok (.iload_n 3, 1) := by decide +kernel
theorem d_law_779 : decode code 779 = .ok (.iconst 2, 1) := by decide +kernel
theorem d_law_780 : decode code 780 = .ok (.iadd, 1) := by decide +kernel
theorem d_law_781 : decode code 781 = .ok (.iaload, 1) := by decide +kernel
theorem d_law_782 : decode code 782 = .ok (.invokevirtual 92, 3) := by decide +kernel
theorem d_law_785 : decode code 785 = .ok (.aload_n 2, 1) := by decide +kernel
theorem d_law_786 : decode code 786 = .ok (.aload_n 0, 1) := by decide +kernel
theorem d_law_787 : decode code 787 = .ok (.iload_n 3, 1) := by decide +kernel
theorem d_law_788 : decode code 788 = .ok (.iconst 1, 1) := by decide +kernel
theorem d_law_789 : decode code 789 = .ok (.iadd, 1) := by decide +kernel
theorem d_law_790 : decode code 790 = .ok (.iaload, 1) := by decide +kernel
theorem d_law_791 : decode code 791 = .ok (.aload_n 0, 1) := by decide +kernel
theorem d_law_792 : decode code 792 = .ok (.iload_n 3, 1) := by decide +kernel
theorem d_law_793 : decode code 793 = .ok (.iconst 2, 1) := by decide +kernel
theorem d_law_794 : decode code 794 = .ok (.iadd, 1) := by decide +kernel
theorem d_law_795 : decode code 795 = .ok (.iaload, 1) := by decide +kernel
theorem d_law_796 : decode code 796 = .ok (.invokevirtual 95, 3) := by decide +kernel
theorem d_law_799 : decode code 799 = .ok (.if_icmp .eq 81, 3) := by decide +kernel
theorem d_law_802 : decode code 802 = .ok (.iconst 0, 1) := by decide +kernel
theorem d_law_803 : decode code 803 = .ok (.ireturn, 1) := by decide +kernel
theorem d_law_804 : decode code 804 = .ok (.aload_n 1, 1) := by decide +kernel
theorem d_law_805 : decode code 805 = .ok (.aload_n 0, 1) := by decide +kernel
theorem d_law_806 : decode code 806 = .ok (.iload_n 3, 1) := by decide +kernel
theorem d_law_807 : decode code 807 = .ok (.iconst 1, 1) := by decide +kernel
theorem d_law_808 : decode code 808 = .ok (.iadd, 1) := by decide +kernel
theorem d_law_809 : decode code 809 = .ok (.iaload, 1) := by decide +kernel
theorem d_law_810 : decode code 810 = .ok (.aload_n 0, 1) := by decide +kernel
theorem d_law_811 : decode code 811 = .ok (.iload_n 3, 1) := by decide +kernel
theorem d_law_812 : decode code 812 = .ok (.iconst 2, 1) := by decide +kernel
theorem d_law_813 : decode code 813 = .ok (.iadd, 1) := by decide +kernel
theorem d_law_814 : decode code 814 = .ok (.iaload, 1) := by decide +kernel
theorem d_law_815 : decode code 815 = .ok (.invokevirtual 96, 3) := by decide +kernel
theorem d_law_818 : decode code 818 = .ok (.aload_n 2, 1) := by decide +kernel
theorem d_law_819 : decode code 819 = .ok (.aload_n 0, 1) := by decide +kernel
theorem d_law_820 : decode code 820 = .ok (.iload_n 3, 1) := by decide +kernel
theorem d_law_821 : decode code 821 = .ok (.iconst 1, 1) := by decide +kernel
theorem d_law_822 : decode code 822 = .ok (.iadd, 1) := by decide +kernel
theorem d_law_823 : decode code 823 = .ok (.iaload, 1) := by decide +kernel
theorem d_law_824 : decode code 824 = .ok (.aload_n 0, 1) := by decide +kernel
theorem d_law_825 : decode code 825 = .ok (.iload_n 3, 1) := by decide +kernel
theorem d_law_826 : decode code 826 = .ok (.iconst 2, 1) := by decide +kernel
theorem d_law_827 : decode code 827 = .ok (.iadd, 1) := by decide +kernel
theorem d_law_828 : decode code 828 = .ok (.iaload, 1) := by decide +kernel
theorem d_law_829 : decode code 829 = .ok (.invokevirtual 99, 3) := by decide +kernel
theorem d_law_832 : decode code 832 = .ok (.if_icmp .eq 48, 3) := by decide +kernel
theorem d_law_835 : decode code 835 = .ok (.iconst 0, 1) := by decide +kernel
theorem d_law_836 : decode code 836 = .ok (.ireturn, 1) := by decide +kernel
theorem d_law_837 : decode code 837 = .ok (.aload_n 1, 1) := by decide +kernel
theorem d_law_838 : decode code 838 = .ok (.aload_n 0, 1) := by decide +kernel
theorem d_law_839 : decode code 839 = .ok (.iload_n 3, 1) := by decide +kernel
theorem d_law_840 : decode code 840 = .ok (.iconst 1, 1) := by decide +kernel
theorem d_law_841 : decode code 841 = .ok (.iadd, 1) := by decide +kernel
theorem d_law_842 : decode code 842 = .ok (.iaload, 1) := by decide +kernel
theorem d_law_843 : decode code 843 = .ok (.aload_n 0, 1) := by decide +kernel
theorem d_law_844 : decode code 844 = .ok (.iload_n 3, 1) := by decide +kernel
theorem d_law_845 : decode code 845 = .ok (.iconst 2, 1) := by decide +kernel
theorem d_law_846 : decode code 846 = .ok (.iadd, 1) := by decide +kernel
theorem d_law_847 : decode code 847 = .ok (.iaload, 1) := by decide +kernel
theorem d_law_848 : decode code 848 = .ok (.aload_n 0, 1) := by decide +kernel
theorem d_law_849 : decode code 849 = .ok (.iload_n 3, 1) := by decide +kernel
theorem d_law_850 : decode code 850 = .ok (.iconst 3, 1) := by decide +kernel
theorem d_law_851 : decode code 851 = .ok (.iadd, 1) := by decide +kernel
theorem d_law_852 : decode code 852 = .ok (.iaload, 1) := by decide +kernel
theorem d_law_853 : decode code 853 = .ok (.invokevirtual 100, 3) := by decide +kernel
theorem d_law_856 : decode code 856 = .ok (.aload_n 2, 1) := by decide +kernel
theorem d_law_857 : decode code 857 = .ok (.aload_n 0, 1) := by decide +kernel
theorem d_law_858 : decode code 858 = .ok (.iload_n 3, 1) := by decide +kernel
theorem d_law_859 : decode code 859 = .ok (.iconst 1, 1) := by decide +kernel
theorem d_law_860 : decode code 860 = .ok (.iadd, 1) := by decide +kernel
theorem d_law_861 : decode code 861 = .ok (.iaload, 1) := by decide +kernel
theorem d_law_862 : decode code 862 = .ok (.aload_n 0, 1) := by decide +kernel
theorem d_law_863 : decode code 863 = .ok (.iload_n 3, 1) := by decide +kernel
theorem d_law_864 : decode code 864 = .ok (.iconst 2, 1) := by decide +kernel
theorem d_law_865 : decode code 865 = .ok (.iadd, 1) := by decide +kernel
theorem d_law_866 : decode code 866 = .ok (.iaload, 1) := by decide +kernel
theorem d_law_867 : decode code 867 = .ok (.aload_n 0, 1) := by decide +kernel
theorem d_law_868 : decode code 868 = .ok (.iload_n 3, 1) := by decide +kernel
theorem d_law_869 : decode code 869 = .ok (.iconst 3, 1) := by decide +kernel
theorem d_law_870 : decode code 870 = .ok (.iadd, 1) := by decide +kernel
theorem d_law_871 : decode code 871 = .ok (.iaload, 1) := by decide +kernel
theorem d_law_872 : decode code 872 = .ok (.invokevirtual 103, 3) := by decide +kernel
theorem d_law_875 : decode code 875 = .ok (.if_icmp .eq 5, 3) := by decide +kernel
theorem d_law_878 : decode code 878 = .ok (.iconst 0, 1) := by decide +kernel
theorem d_law_879 : decode code 879 = .ok (.ireturn, 1) := by decide +kernel
theorem d_law_880 : decode code 880 = .ok (.iinc 3 5, 3) := by decide +kernel
theorem d_law_883 : decode code 883 = .ok (.goto (-865), 3) := by decide +kernel
theorem d_law_886 : decode code 886 = .ok (.iconst 1, 1) := by decide +kernel
theorem d_law_887 : decode code 887 = .ok (.ireturn, 1) := by decide +kernel
