theorem d_law_635 : decode code 635 = .ok (.invokevirtual 109, 3) := by decide +kernel
theorem d_law_638 : decode code 638 = .ok (.aload_n 2, 1) := by decide +kernel
theorem d_law_639 : decode code 639 = .ok (.invokevirtual 81, 3) := by decide +kernel
theorem d_law_642 : decode code 642 = .ok (.iload 6, 2) := by decide +kernel
theorem d_law_644 : decode code 644 = .ok (.if_icmp .eq 5, 3) := by decide +kernel
theorem d_law_647 : decode code 647 = .ok (.iconst 0, 1) := by decide +kernel
theorem d_law_648 : decode code 648 = .ok (.ireturn, 1) := by decide +kernel
theorem d_law_649 : decode code 649 = .ok (.goto 525, 3) := by decide +kernel
theorem d_law_652 : decode code 652 = .ok (.aload_n 1, 1) := by decide +kernel
theorem d_law_653 : decode code 653 = .ok (.aload_n 3, 1) := by decide +kernel
theorem d_law_654 : decode code 654 = .ok (.invokestatic 110, 3) := by decide +kernel
theorem d_law_657 : decode code 657 = .ok (.istore 6, 2) := by decide +kernel
theorem d_law_659 : decode code 659 = .ok (.aload_n 2, 1) := by decide +kernel
theorem d_law_660 : decode code 660 = .ok (.invokevirtual 113, 3) := by decide +kernel
theorem d_law_663 : decode code 663 = .ok (.istore 7, 2) := by decide +kernel
theorem d_law_665 : decode code 665 = .ok (.aload_n 2, 1) := by decide +kernel
theorem d_law_666 : decode code 666 = .ok (.invokevirtual 81, 3) := by decide +kernel
theorem d_law_669 : decode code 669 = .ok (.iload 6, 2) := by decide +kernel
theorem d_law_671 : decode code 671 = .ok (.if_icmp .eq 5, 3) := by decide +kernel
theorem d_law_674 : decode code 674 = .ok (.iconst 0, 1) := by decide +kernel
theorem d_law_675 : decode code 675 = .ok (.ireturn, 1) := by decide +kernel
theorem d_law_676 : decode code 676 = .ok (.iload 6, 2) := by decide +kernel
theorem d_law_678 : decode code 678 = .ok (.ifCond .ne 15, 3) := by decide +kernel
theorem d_law_681 : decode code 681 = .ok (.aload_n 3, 1) := by decide +kernel
theorem d_law_682 : decode code 682 = .ok (.iconst 0, 1) := by decide +kernel
theorem d_law_683 : decode code 683 = .ok (.laload, 1) := by decide +kernel
theorem d_law_684 : decode code 684 = .ok (.iload 7, 2) := by decide +kernel
theorem d_law_686 : decode code 686 = .ok (.i2l, 1) := by decide +kernel
theorem d_law_687 : decode code 687 = .ok (.lcmp, 1) := by decide +kernel
theorem d_law_688 : decode code 688 = .ok (.ifCond .eq 5, 3) := by decide +kernel
theorem d_law_691 : decode code 691 = .ok (.iconst 0, 1) := by decide +kernel
theorem d_law_692 : decode code 692 = .ok (.ireturn, 1) := by decide +kernel
theorem d_law_693 : decode code 693 = .ok (.goto 481, 3) := by decide +kernel
theorem d_law_696 : decode code 696 = .ok (.aload_n 1, 1) := by decide +kernel
theorem d_law_697 : decode code 697 = .ok (.invokevirtual 114, 3) := by decide +kernel
theorem d_law_700 : decode code 700 = .ok (.aload_n 2, 1) := by decide +kernel
theorem d_law_701 : decode code 701 = .ok (.invokevirtual 117, 3) := by decide +kernel
theorem d_law_704 : decode code 704 = .ok (.if_icmp .eq 470, 3) := by decide +kernel
theorem d_law_707 : decode code 707 = .ok (.iconst 0, 1) := by decide +kernel
theorem d_law_708 : decode code 708 = .ok (.ireturn, 1) := by decide +kernel
theorem d_law_709 : decode code 709 = .ok (.aload_n 1, 1) := by decide +kernel
theorem d_law_710 : decode code 710 = .ok (.invokevirtual 118, 3) := by decide +kernel
theorem d_law_713 : decode code 713 = .ok (.aload_n 2, 1) := by decide +kernel
theorem d_law_714 : decode code 714 = .ok (.invokevirtual 121, 3) := by decide +kernel
theorem d_law_717 : decode code 717 = .ok (.if_icmp .eq 457, 3) := by decide +kernel
theorem d_law_720 : decode code 720 = .ok (.iconst 0, 1) := by decide +kernel
theorem d_law_721 : decode code 721 = .ok (.ireturn, 1) := by decide +kernel
theorem d_law_722 : decode code 722 = .ok (.aload_n 1, 1) := by decide +kernel
theorem d_law_723 : decode code 723 = .ok (.aload_n 0, 1) := by decide +kernel
theorem d_law_724 : decode code 724 = .ok (.iload 5, 2) := by decide +kernel
theorem d_law_726 : decode code 726 = .ok (.iconst 1, 1) := by decide +kernel
theorem d_law_727 : decode code 727 = .ok (.iadd, 1) := by decide +kernel
theorem d_law_728 : decode code 728 = .ok (.iaload, 1) := by decide +kernel
theorem d_law_729 : decode code 729 = .ok (.aload_n 0, 1) := by decide +kernel
theorem d_law_730 : decode code 730 = .ok (.iload 5, 2) := by decide +kernel
theorem d_law_732 : decode code 732 = .ok (.iconst 2, 1) := by decide +kernel
theorem d_law_733 : decode code 733 = .ok (.iadd, 1) := by decide +kernel
theorem d_law_734 : decode code 734 = .ok (.iaload, 1) := by decide +kernel
theorem d_law_735 : decode code 735 = .ok (.aload_n 0, 1) := by decide +kernel
theorem d_law_736 : decode code 736 = .ok (.iload 5, 2) := by decide +kernel
theorem d_law_738 : decode code 738 = .ok (.iconst 3, 1) := by decide +kernel
theorem d_law_739 : decode code 739 = .ok (.iadd, 1) := by decide +kernel
theorem d_law_740 : decode code 740 = .ok (.iaload, 1) := by decide +kernel
theorem d_law_741 : decode code 741 = .ok (.aload_n 0, 1) := by decide +kernel
theorem d_law_742 : decode code 742 = .ok (.iload 5, 2) := by decide +kernel
theorem d_law_744 : decode code 744 = .ok (.iconst 4, 1) := by decide +kernel
theorem d_law_745 : decode code 745 = .ok (.iadd, 1) := by decide +kernel
theorem d_law_746 : decode code 746 = .ok (.iaload, 1) := by decide +kernel
theorem d_law_747 : decode code 747 = .ok (.i2d, 1) := by decide +kernel
theorem d_law_748 : decode code 748 = .ok (.ldc2_w 88, 3) := by decide +kernel
theorem d_law_751 : decode code 751 = .ok (.dmul, 1) := by decide +kernel
theorem d_law_752 : decode code 752 = .ok (.aload_n 3, 1) := by decide +kernel
theorem d_law_753 : decode code 753 = .ok (.invokestatic 122, 3) := by decide +kernel
theorem d_law_756 : decode code 756 = .ok (.istore 6, 2) := by decide +kernel
theorem d_law_758 : decode code 758 = .ok (.aload_n 2, 1) := by decide +kernel
theorem d_law_759 : decode code 759 = .ok (.aload_n 0, 1) := by decide +kernel
theorem d_law_760 : decode code 760 = .ok (.iload 5, 2) := by decide +kernel
theorem d_law_762 : decode code 762 = .ok (.iconst 1, 1) := by decide +kernel
theorem d_law_763 : decode code 763 = .ok (.iadd, 1) := by decide +kernel
theorem d_law_764 : decode code 764 = .ok (.iaload, 1) := by decide +kernel
theorem d_law_765 : decode code 765 = .ok (.aload_n 0, 1) := by decide +kernel
theorem d_law_766 : decode code 766 = .ok (.iload 5, 2) := by decide +kernel
theorem d_law_768 : decode code 768 = .ok (.iconst 2, 1) := by decide +kernel
theorem d_law_769 : decode code 769 = .ok (.iadd, 1) := by decide +kernel
theorem d_law_770 : decode code 770 = .ok (.iaload, 1) := by decide +kernel
theorem d_law_771 : decode code 771 = .ok (.aload_n 0, 1) := by decide +kernel
theorem d_law_772 : decode code 772 = .ok (.iload 5, 2) := by decide +kernel
theorem d_law_774 : decode code 774 = .ok (.iconst 3, 1) := by decide +kernel
theorem d_law_775 : decode code 775 = .ok (.iadd, 1) := by decide +kernel
theorem d_law_776 : decode code 776 = .ok (.iaload, 1) := by decide +kernel
theorem d_law_777 : decode code 777 = .ok (.aload_n 0, 1) := by decide +kernel
theorem d_law_778 : decode code 778 = .ok (.iload 5, 2) := by decide +kernel
theorem d_law_780 : decode code 780 = .ok (.iconst 4, 1) := by decide +kernel
theorem d_law_781 : decode code 781 = .ok (.iadd, 1) := by decide +kernel
theorem d_law_782 : decode code 782 = .ok (.iaload, 1) := by decide +kernel
theorem d_law_783 : decode code 783 = .ok (.i2d, 1) := by decide +kernel
theorem d_law_784 : decode code 784 = .ok (.ldc2_w 88, 3) := by decide +kernel
theorem d_law_787 : decode code 787 = .ok (.dmul, 1) := by decide +kernel
theorem d_law_788 : decode code 788 = .ok (.invokevirtual 125, 3) := by decide +kernel
theorem d_law_791 : decode code 791 = .ok (.istore 7, 2) := by decide +kernel
theorem d_law_793 : decode code 793 = .ok (.aload_n 2, 1) := by decide +kernel
theorem d_law_794 : decode code 794 = .ok (.invokevirtual 81, 3) := by decide +kernel
theorem d_law_797 : decode code 797 = .ok (.iload 6, 2) := by decide +kernel
theorem d_law_799 : decode code 799 = .ok (.if_icmp .eq 5, 3) := by decide +kernel
theorem d_law_802 : decode code 802 = .ok (.iconst 0, 1) := by decide +kernel
theorem d_law_803 : decode code 803 = .ok (.ireturn, 1) := by decide +kernel
theorem d_law_804 : decode code 804 = .ok (.iload 6, 2) := by decide +kernel
theorem d_law_806 : decode code 806 = .ok (.ifCond .ne 15, 3) := by decide +kernel
theorem d_law_809 : decode code 809 = .ok (.aload_n 3, 1) := by decide +kernel
theorem d_law_810 : decode code 810 = .ok (.iconst 0, 1) := by decide +kernel
theorem d_law_811 : decode code 811 = .ok (.laload, 1) := by decide +kernel
theorem d_law_812 : decode code 812 = .ok (.iload 7, 2) := by decide +kernel
theorem d_law_814 : decode code 814 = .ok (.i2l, 1) := by decide +kernel
theorem d_law_815 : decode code 815 = .ok (.lcmp, 1) := by decide +kernel
theorem d_law_816 : decode code 816 = .ok (.ifCond .eq 5, 3) := by decide +kernel
theorem d_law_819 : decode code 819 = .ok (.iconst 0, 1) := by decide +kernel
theorem d_law_820 : decode code 820 = .ok (.ireturn, 1) := by decide +kernel
theorem d_law_821 : decode code 821 = .ok (.goto 353, 3) := by decide +kernel
theorem d_law_824 : decode code 824 = .ok (.aload_n 1, 1) := by decide +kernel
theorem d_law_825 : decode code 825 = .ok (.invokevirtual 126, 3) := by decide +kernel
