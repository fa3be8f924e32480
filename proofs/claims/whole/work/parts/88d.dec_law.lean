theorem d_law_661 : decode code 661 = .ok (.aload_n 1, 1) := by decide +kernel
theorem d_law_662 : decode code 662 = .ok (.aload_n 3, 1) := by decide +kernel
theorem d_law_663 : decode code 663 = .ok (.invokestatic 113, 3) := by decide +kernel
theorem d_law_666 : decode code 666 = .ok (.istore 5, 2) := by decide +kernel
theorem d_law_668 : decode code 668 = .ok (.aload_n 2, 1) := by decide +kernel
theorem d_law_669 : decode code 669 = .ok (.invokevirtual 115, 3) := by decide +kernel
theorem d_law_672 : decode code 672 = .ok (.istore 6, 2) := by decide +kernel
theorem d_law_674 : decode code 674 = .ok (.aload_n 2, 1) := by decide +kernel
theorem d_law_675 : decode code 675 = .ok (.invokevirtual 77, 3) := by decide +kernel
theorem d_law_678 : decode code 678 = .ok (.iload 5, 2) := by decide +kernel
theorem d_law_680 : decode code 680 = .ok (.if_icmp .eq 5, 3) := by decide +kernel
theorem d_law_683 : decode code 683 = .ok (.iconst 0, 1) := by decide +kernel
theorem d_law_684 : decode code 684 = .ok (.ireturn, 1) := by decide +kernel
theorem d_law_685 : decode code 685 = .ok (.iload 5, 2) := by decide +kernel
theorem d_law_687 : decode code 687 = .ok (.ifCond .ne 15, 3) := by decide +kernel
theorem d_law_690 : decode code 690 = .ok (.aload_n 3, 1) := by decide +kernel
theorem d_law_691 : decode code 691 = .ok (.iconst 0, 1) := by decide +kernel
theorem d_law_692 : decode code 692 = .ok (.laload, 1) := by decide +kernel
theorem d_law_693 : decode code 693 = .ok (.iload 6, 2) := by decide +kernel
theorem d_law_695 : decode code 695 = .ok (.i2l, 1) := by decide +kernel
theorem d_law_696 : decode code 696 = .ok (.lcmp, 1) := by decide +kernel
theorem d_law_697 : decode code 697 = .ok (.ifCond .eq 5, 3) := by decide +kernel
theorem d_law_700 : decode code 700 = .ok (.iconst 0, 1) := by decide +kernel
theorem d_law_701 : decode code 701 = .ok (.ireturn, 1) := by decide +kernel
theorem d_law_702 : decode code 702 = .ok (.goto 475, 3) := by decide +kernel
theorem d_law_705 : decode code 705 = .ok (.aload_n 1, 1) := by decide +kernel
theorem d_law_706 : decode code 706 = .ok (.aload_n 0, 1) := by decide +kernel
theorem d_law_707 : decode code 707 = .ok (.iload 4, 2) := by decide +kernel
theorem d_law_709 : decode code 709 = .ok (.iconst 1, 1) := by decide +kernel
theorem d_law_710 : decode code 710 = .ok (.iadd, 1) := by decide +kernel
theorem d_law_711 : decode code 711 = .ok (.iaload, 1) := by decide +kernel
theorem d_law_712 : decode code 712 = .ok (.aload_n 3, 1) := by decide +kernel
theorem d_law_713 : decode code 713 = .ok (.invokestatic 116, 3) := by decide +kernel
theorem d_law_716 : decode code 716 = .ok (.istore 5, 2) := by decide +kernel
theorem d_law_718 : decode code 718 = .ok (.aload_n 2, 1) := by decide +kernel
theorem d_law_719 : decode code 719 = .ok (.aload_n 0, 1) := by decide +kernel
theorem d_law_720 : decode code 720 = .ok (.iload 4, 2) := by decide +kernel
theorem d_law_722 : decode code 722 = .ok (.iconst 1, 1) := by decide +kernel
theorem d_law_723 : decode code 723 = .ok (.iadd, 1) := by decide +kernel
theorem d_law_724 : decode code 724 = .ok (.iaload, 1) := by decide +kernel
theorem d_law_725 : decode code 725 = .ok (.invokevirtual 118, 3) := by decide +kernel
theorem d_law_728 : decode code 728 = .ok (.istore 6, 2) := by decide +kernel
theorem d_law_730 : decode code 730 = .ok (.aload_n 2, 1) := by decide +kernel
theorem d_law_731 : decode code 731 = .ok (.invokevirtual 77, 3) := by decide +kernel
theorem d_law_734 : decode code 734 = .ok (.iload 5, 2) := by decide +kernel
theorem d_law_736 : decode code 736 = .ok (.if_icmp .eq 5, 3) := by decide +kernel
theorem d_law_739 : decode code 739 = .ok (.iconst 0, 1) := by decide +kernel
theorem d_law_740 : decode code 740 = .ok (.ireturn, 1) := by decide +kernel
theorem d_law_741 : decode code 741 = .ok (.iload 5, 2) := by decide +kernel
theorem d_law_743 : decode code 743 = .ok (.ifCond .ne 15, 3) := by decide +kernel
theorem d_law_746 : decode code 746 = .ok (.aload_n 3, 1) := by decide +kernel
theorem d_law_747 : decode code 747 = .ok (.iconst 0, 1) := by decide +kernel
theorem d_law_748 : decode code 748 = .ok (.laload, 1) := by decide +kernel
theorem d_law_749 : decode code 749 = .ok (.iload 6, 2) := by decide +kernel
theorem d_law_751 : decode code 751 = .ok (.i2l, 1) := by decide +kernel
theorem d_law_752 : decode code 752 = .ok (.lcmp, 1) := by decide +kernel
theorem d_law_753 : decode code 753 = .ok (.ifCond .eq 5, 3) := by decide +kernel
theorem d_law_756 : decode code 756 = .ok (.iconst 0, 1) := by decide +kernel
theorem d_law_757 : decode code 757 = .ok (.ireturn, 1) := by decide +kernel
theorem d_law_758 : decode code 758 = .ok (.goto 419, 3) := by decide +kernel
theorem d_law_761 : decode code 761 = .ok (.aload_n 1, 1) := by decide +kernel
theorem d_law_762 : decode code 762 = .ok (.aload_n 0, 1) := by decide +kernel
theorem d_law_763 : decode code 763 = .ok (.iload 4, 2) := by decide +kernel
theorem d_law_765 : decode code 765 = .ok (.iconst 1, 1) := by decide +kernel
theorem d_law_766 : decode code 766 = .ok (.iadd, 1) := by decide +kernel
theorem d_law_767 : decode code 767 = .ok (.iaload, 1) := by decide +kernel
theorem d_law_768 : decode code 768 = .ok (.aload_n 3, 1) := by decide +kernel
theorem d_law_769 : decode code 769 = .ok (.invokestatic 119, 3) := by decide +kernel
theorem d_law_772 : decode code 772 = .ok (.istore 5, 2) := by decide +kernel
theorem d_law_774 : decode code 774 = .ok (.aload_n 2, 1) := by decide +kernel
theorem d_law_775 : decode code 775 = .ok (.aload_n 0, 1) := by decide +kernel
theorem d_law_776 : decode code 776 = .ok (.iload 4, 2) := by decide +kernel
theorem d_law_778 : decode code 778 = .ok (.iconst 1, 1) := by decide +kernel
theorem d_law_779 : decode code 779 = .ok (.iadd, 1) := by decide +kernel
theorem d_law_780 : decode code 780 = .ok (.iaload, 1) := by decide +kernel
theorem d_law_781 : decode code 781 = .ok (.invokevirtual 121, 3) := by decide +kernel
theorem d_law_784 : decode code 784 = .ok (.istore 6, 2) := by decide +kernel
theorem d_law_786 : decode code 786 = .ok (.aload_n 2, 1) := by decide +kernel
theorem d_law_787 : decode code 787 = .ok (.invokevirtual 77, 3) := by decide +kernel
theorem d_law_790 : decode code 790 = .ok (.iload 5, 2) := by decide +kernel
theorem d_law_792 : decode code 792 = .ok (.if_icmp .eq 5, 3) := by decide +kernel
theorem d_law_795 : decode code 795 = .ok (.iconst 0, 1) := by decide +kernel
theorem d_law_796 : decode code 796 = .ok (.ireturn, 1) := by decide +kernel
theorem d_law_797 : decode code 797 = .ok (.iload 5, 2) := by decide +kernel
theorem d_law_799 : decode code 799 = .ok (.ifCond .ne 15, 3) := by decide +kernel
theorem d_law_802 : decode code 802 = .ok (.aload_n 3, 1) := by decide +kernel
theorem d_law_803 : decode code 803 = .ok (.iconst 0, 1) := by decide +kernel
theorem d_law_804 : decode code 804 = .ok (.laload, 1) := by decide +kernel
theorem d_law_805 : decode code 805 = .ok (.iload 6, 2) := by decide +kernel
theorem d_law_807 : decode code 807 = .ok (.i2l, 1) := by decide +kernel
theorem d_law_808 : decode code 808 = .ok (.lcmp, 1) := by decide +kernel
theorem d_law_809 : decode code 809 = .ok (.ifCond .eq 5, 3) := by decide +kernel
theorem d_law_812 : decode code 812 = .ok (.iconst 0, 1) := by decide +kernel
theorem d_law_813 : decode code 813 = .ok (.ireturn, 1) := by decide +kernel
theorem d_law_814 : decode code 814 = .ok (.goto 363, 3) := by decide +kernel
theorem d_law_817 : decode code 817 = .ok (.aload_n 1, 1) := by decide +kernel
theorem d_law_818 : decode code 818 = .ok (.aload_n 0, 1) := by decide +kernel
theorem d_law_819 : decode code 819 = .ok (.iload 4, 2) := by decide +kernel
theorem d_law_821 : decode code 821 = .ok (.iconst 1, 1) := by decide +kernel
theorem d_law_822 : decode code 822 = .ok (.iadd, 1) := by decide +kernel
theorem d_law_823 : decode code 823 = .ok (.iaload, 1) := by decide +kernel
theorem d_law_824 : decode code 824 = .ok (.aload_n 0, 1) := by decide +kernel
theorem d_law_825 : decode code 825 = .ok (.iload 4, 2) := by decide +kernel
theorem d_law_827 : decode code 827 = .ok (.iconst 2, 1) := by decide +kernel
theorem d_law_828 : decode code 828 = .ok (.iadd, 1) := by decide +kernel
theorem d_law_829 : decode code 829 = .ok (.iaload, 1) := by decide +kernel
theorem d_law_830 : decode code 830 = .ok (.aload_n 0, 1) := by decide +kernel
theorem d_law_831 : decode code 831 = .ok (.iload 4, 2) := by decide +kernel
theorem d_law_833 : decode code 833 = .ok (.iconst 3, 1) := by decide +kernel
theorem d_law_834 : decode code 834 = .ok (.iadd, 1) := by decide +kernel
theorem d_law_835 : decode code 835 = .ok (.iaload, 1) := by decide +kernel
theorem d_law_836 : decode code 836 = .ok (.aload_n 3, 1) := by decide +kernel
theorem d_law_837 : decode code 837 = .ok (.invokestatic 122, 3) := by decide +kernel
theorem d_law_840 : decode code 840 = .ok (.istore 5, 2) := by decide +kernel
theorem d_law_842 : decode code 842 = .ok (.aload_n 2, 1) := by decide +kernel
theorem d_law_843 : decode code 843 = .ok (.aload_n 0, 1) := by decide +kernel
theorem d_law_844 : decode code 844 = .ok (.iload 4, 2) := by decide +kernel
theorem d_law_846 : decode code 846 = .ok (.iconst 1, 1) := by decide +kernel
theorem d_law_847 : decode code 847 = .ok (.iadd, 1) := by decide +kernel
theorem d_law_848 : decode code 848 = .ok (.iaload, 1) := by decide +kernel
