theorem dL_law_542 : decode cL_law 542 = .ok (.istore 19, 2) := by decide +kernel
theorem dL_law_544 : decode cL_law 544 = .ok (.goto (-30), 3) := by decide +kernel
theorem dL_law_547 : decode cL_law 547 = .ok (.aload_n 1, 1) := by decide +kernel
theorem dL_law_548 : decode cL_law 548 = .ok (.iload 20, 2) := by decide +kernel
theorem dL_law_550 : decode cL_law 550 = .ok (.invokevirtual 81, 3) := by decide +kernel
theorem dL_law_553 : decode cL_law 553 = .ok (.istore 20, 2) := by decide +kernel
theorem dL_law_555 : decode cL_law 555 = .ok (.goto (-41), 3) := by decide +kernel
theorem dL_law_558 : decode cL_law 558 = .ok (.aload_n 1, 1) := by decide +kernel
theorem dL_law_559 : decode cL_law 559 = .ok (.iload 9, 2) := by decide +kernel
theorem dL_law_561 : decode cL_law 561 = .ok (.iload 18, 2) := by decide +kernel
theorem dL_law_563 : decode cL_law 563 = .ok (.invokevirtual 204, 3) := by decide +kernel
theorem dL_law_566 : decode cL_law 566 = .ok (.iload 19, 2) := by decide +kernel
theorem dL_law_568 : decode cL_law 568 = .ok (.if_icmp .ne 32, 3) := by decide +kernel
theorem dL_law_571 : decode cL_law 571 = .ok (.aload_n 1, 1) := by decide +kernel
theorem dL_law_572 : decode cL_law 572 = .ok (.iload 9, 2) := by decide +kernel
theorem dL_law_574 : decode cL_law 574 = .ok (.iload 18, 2) := by decide +kernel
theorem dL_law_576 : decode cL_law 576 = .ok (.invokevirtual 207, 3) := by decide +kernel
theorem dL_law_579 : decode cL_law 579 = .ok (.iload 13, 2) := by decide +kernel
theorem dL_law_581 : decode cL_law 581 = .ok (.aload_n 1, 1) := by decide +kernel
theorem dL_law_582 : decode cL_law 582 = .ok (.iload 18, 2) := by decide +kernel
theorem dL_law_584 : decode cL_law 584 = .ok (.invokevirtual 178, 3) := by decide +kernel
theorem dL_law_587 : decode cL_law 587 = .ok (.iadd, 1) := by decide +kernel
theorem dL_law_588 : decode cL_law 588 = .ok (.iconst 2, 1) := by decide +kernel
theorem dL_law_589 : decode cL_law 589 = .ok (.aload_n 1, 1) := by decide +kernel
theorem dL_law_590 : decode cL_law 590 = .ok (.iload 19, 2) := by decide +kernel
theorem dL_law_592 : decode cL_law 592 = .ok (.invokevirtual 178, 3) := by decide +kernel
theorem dL_law_595 : decode cL_law 595 = .ok (.imul, 1) := by decide +kernel
theorem dL_law_596 : decode cL_law 596 = .ok (.isub, 1) := by decide +kernel
theorem dL_law_597 : decode cL_law 597 = .ok (.if_icmp .eq 5, 3) := by decide +kernel
theorem dL_law_600 : decode cL_law 600 = .ok (.iconst 0, 1) := by decide +kernel
theorem dL_law_601 : decode cL_law 601 = .ok (.ireturn, 1) := by decide +kernel
theorem dL_law_602 : decode cL_law 602 = .ok (.iload 4, 2) := by decide +kernel
theorem dL_law_604 : decode cL_law 604 = .ok (.iload 13, 2) := by decide +kernel
theorem dL_law_606 : decode cL_law 606 = .ok (.invokestatic 210, 3) := by decide +kernel
theorem dL_law_609 : decode cL_law 609 = .ok (.istore 4, 2) := by decide +kernel
theorem dL_law_611 : decode cL_law 611 = .ok (.iload 5, 2) := by decide +kernel
theorem dL_law_613 : decode cL_law 613 = .ok (.iload 14, 2) := by decide +kernel
theorem dL_law_615 : decode cL_law 615 = .ok (.iconst 1, 1) := by decide +kernel
theorem dL_law_616 : decode cL_law 616 = .ok (.if_icmp .ne 7, 3) := by decide +kernel
theorem dL_law_619 : decode cL_law 619 = .ok (.iconst 1, 1) := by decide +kernel
theorem dL_law_620 : decode cL_law 620 = .ok (.goto 4, 3) := by decide +kernel
theorem dL_law_623 : decode cL_law 623 = .ok (.iconst 0, 1) := by decide +kernel
theorem dL_law_624 : decode cL_law 624 = .ok (.iadd, 1) := by decide +kernel
theorem dL_law_625 : decode cL_law 625 = .ok (.istore 5, 2) := by decide +kernel
theorem dL_law_627 : decode cL_law 627 = .ok (.iload 6, 2) := by decide +kernel
theorem dL_law_629 : decode cL_law 629 = .ok (.iload 13, 2) := by decide +kernel
theorem dL_law_631 : decode cL_law 631 = .ok (.iadd, 1) := by decide +kernel
theorem dL_law_632 : decode cL_law 632 = .ok (.istore 6, 2) := by decide +kernel
theorem dL_law_634 : decode cL_law 634 = .ok (.iinc 8 1, 3) := by decide +kernel
theorem dL_law_637 : decode cL_law 637 = .ok (.goto (-594), 3) := by decide +kernel
theorem dL_law_640 : decode cL_law 640 = .ok (.aload_n 1, 1) := by decide +kernel
theorem dL_law_641 : decode cL_law 641 = .ok (.invokevirtual 213, 3) := by decide +kernel
theorem dL_law_644 : decode cL_law 644 = .ok (.iload 4, 2) := by decide +kernel
theorem dL_law_646 : decode cL_law 646 = .ok (.if_icmp .ne 100, 3) := by decide +kernel
theorem dL_law_649 : decode cL_law 649 = .ok (.aload_n 1, 1) := by decide +kernel
theorem dL_law_650 : decode cL_law 650 = .ok (.invokevirtual 216, 3) := by decide +kernel
theorem dL_law_653 : decode cL_law 653 = .ok (.iload 5, 2) := by decide +kernel
theorem dL_law_655 : decode cL_law 655 = .ok (.if_icmp .ne 91, 3) := by decide +kernel
theorem dL_law_658 : decode cL_law 658 = .ok (.iload_n 3, 1) := by decide +kernel
theorem dL_law_659 : decode cL_law 659 = .ok (.ifCond .le 41, 3) := by decide +kernel
theorem dL_law_662 : decode cL_law 662 = .ok (.aload_n 1, 1) := by decide +kernel
theorem dL_law_663 : decode cL_law 663 = .ok (.iload 7, 2) := by decide +kernel
theorem dL_law_665 : decode cL_law 665 = .ok (.invokevirtual 181, 3) := by decide +kernel
theorem dL_law_668 : decode cL_law 668 = .ok (.iload_n 3, 1) := by decide +kernel
theorem dL_law_669 : decode cL_law 669 = .ok (.if_icmp .ne 77, 3) := by decide +kernel
theorem dL_law_672 : decode cL_law 672 = .ok (.aload_n 1, 1) := by decide +kernel
theorem dL_law_673 : decode cL_law 673 = .ok (.invokevirtual 219, 3) := by decide +kernel
theorem dL_law_676 : decode cL_law 676 = .ok (.iload 6, 2) := by decide +kernel
theorem dL_law_678 : decode cL_law 678 = .ok (.i2d, 1) := by decide +kernel
theorem dL_law_679 : decode cL_law 679 = .ok (.iload_n 3, 1) := by decide +kernel
theorem dL_law_680 : decode cL_law 680 = .ok (.i2d, 1) := by decide +kernel
theorem dL_law_681 : decode cL_law 681 = .ok (.ddiv, 1) := by decide +kernel
theorem dL_law_682 : decode cL_law 682 = .ok (.dcmp .l, 1) := by decide +kernel
theorem dL_law_683 : decode cL_law 683 = .ok (.ifCond .ne 63, 3) := by decide +kernel
theorem dL_law_686 : decode cL_law 686 = .ok (.aload_n 1, 1) := by decide +kernel
theorem dL_law_687 : decode cL_law 687 = .ok (.invokevirtual 223, 3) := by decide +kernel
theorem dL_law_690 : decode cL_law 690 = .ok (.iload 5, 2) := by decide +kernel
theorem dL_law_692 : decode cL_law 692 = .ok (.i2f, 1) := by decide +kernel
theorem dL_law_693 : decode cL_law 693 = .ok (.iload_n 3, 1) := by decide +kernel
theorem dL_law_694 : decode cL_law 694 = .ok (.i2f, 1) := by decide +kernel
theorem dL_law_695 : decode cL_law 695 = .ok (.fdiv, 1) := by decide +kernel
theorem dL_law_696 : decode cL_law 696 = .ok (.fcmp .l, 1) := by decide +kernel
theorem dL_law_697 : decode cL_law 697 = .ok (.ifCond .ne 49, 3) := by decide +kernel
theorem dL_law_700 : decode cL_law 700 = .ok (.aload_n 1, 1) := by decide +kernel
theorem dL_law_701 : decode cL_law 701 = .ok (.invokevirtual 227, 3) := by decide +kernel
theorem dL_law_704 : decode cL_law 704 = .ok (.ifCond .eq 42, 3) := by decide +kernel
theorem dL_law_707 : decode cL_law 707 = .ok (.aload_n 1, 1) := by decide +kernel
theorem dL_law_708 : decode cL_law 708 = .ok (.iload_n 3, 1) := by decide +kernel
theorem dL_law_709 : decode cL_law 709 = .ok (.invokestatic 231, 3) := by decide +kernel
theorem dL_law_712 : decode cL_law 712 = .ok (.sipush (-30000), 3) := by decide +kernel
theorem dL_law_715 : decode cL_law 715 = .ok (.if_icmp .ne 31, 3) := by decide +kernel
theorem dL_law_718 : decode cL_law 718 = .ok (.aload_n 1, 1) := by decide +kernel
theorem dL_law_719 : decode cL_law 719 = .ok (.iload_n 3, 1) := by decide +kernel
theorem dL_law_720 : decode cL_law 720 = .ok (.invokestatic 233, 3) := by decide +kernel
theorem dL_law_723 : decode cL_law 723 = .ok (.sipush (-30000), 3) := by decide +kernel
theorem dL_law_726 : decode cL_law 726 = .ok (.if_icmp .ne 20, 3) := by decide +kernel
theorem dL_law_729 : decode cL_law 729 = .ok (.aload_n 1, 1) := by decide +kernel
theorem dL_law_730 : decode cL_law 730 = .ok (.aload_n 1, 1) := by decide +kernel
theorem dL_law_731 : decode cL_law 731 = .ok (.invokevirtual 235, 3) := by decide +kernel
theorem dL_law_734 : decode cL_law 734 = .ok (.aload_n 1, 1) := by decide +kernel
theorem dL_law_735 : decode cL_law 735 = .ok (.iload 7, 2) := by decide +kernel
theorem dL_law_737 : decode cL_law 737 = .ok (.invokestatic 151, 3) := by decide +kernel
theorem dL_law_740 : decode cL_law 740 = .ok (.invokestatic 238, 3) := by decide +kernel
theorem dL_law_743 : decode cL_law 743 = .ok (.ifCond .ne 5, 3) := by decide +kernel
theorem dL_law_746 : decode cL_law 746 = .ok (.iconst 0, 1) := by decide +kernel
theorem dL_law_747 : decode cL_law 747 = .ok (.ireturn, 1) := by decide +kernel
theorem dL_law_748 : decode cL_law 748 = .ok (.iconst 0, 1) := by decide +kernel
theorem dL_law_749 : decode cL_law 749 = .ok (.istore 8, 2) := by decide +kernel
theorem dL_law_751 : decode cL_law 751 = .ok (.iload 8, 2) := by decide +kernel
theorem dL_law_753 : decode cL_law 753 = .ok (.bipush 8, 2) := by decide +kernel
theorem dL_law_755 : decode cL_law 755 = .ok (.if_icmp .ge 403, 3) := by decide +kernel
theorem dL_law_758 : decode cL_law 758 = .ok (.aload_n 0, 1) := by decide +kernel
theorem dL_law_759 : decode cL_law 759 = .ok (.bipush 120, 2) := by decide +kernel
theorem dL_law_761 : decode cL_law 761 = .ok (.bipush 8, 2) := by decide +kernel
theorem dL_law_763 : decode cL_law 763 = .ok (.iload_n 2, 1) := by decide +kernel
theorem dL_law_764 : decode cL_law 764 = .ok (.imul, 1) := by decide +kernel
theorem dL_law_765 : decode cL_law 765 = .ok (.iadd, 1) := by decide +kernel
theorem dL_law_766 : decode cL_law 766 = .ok (.iload 8, 2) := by decide +kernel
theorem dL_law_768 : decode cL_law 768 = .ok (.iadd, 1) := by decide +kernel
theorem dL_law_769 : decode cL_law 769 = .ok (.bipush 100, 2) := by decide +kernel
theorem dL_law_771 : decode cL_law 771 = .ok (.invokestatic 90, 3) := by decide +kernel
theorem dL_law_774 : decode cL_law 774 = .ok (.istore 9, 2) := by decide +kernel
theorem dL_law_776 : decode cL_law 776 = .ok (.iload 9, 2) := by decide +kernel
theorem dL_law_778 : decode cL_law 778 = .ok (.aload_n 0, 1) := by decide +kernel
theorem dL_law_779 : decode cL_law 779 = .ok (.sipush 150, 3) := by decide +kernel
theorem dL_law_782 : decode cL_law 782 = .ok (.iload 8, 2) := by decide +kernel
theorem dL_law_784 : decode cL_law 784 = .ok (.iadd, 1) := by decide +kernel
theorem dL_law_785 : decode cL_law 785 = .ok (.bipush 100, 2) := by decide +kernel
theorem dL_law_787 : decode cL_law 787 = .ok (.iload 9, 2) := by decide +kernel
theorem dL_law_789 : decode cL_law 789 = .ok (.isub, 1) := by decide +kernel
theorem dL_law_790 : decode cL_law 790 = .ok (.invokestatic 90, 3) := by decide +kernel
theorem dL_law_793 : decode cL_law 793 = .ok (.iadd, 1) := by decide +kernel
theorem dL_law_794 : decode cL_law 794 = .ok (.istore 10, 2) := by decide +kernel
theorem dL_law_796 : decode cL_law 796 = .ok (.aload_n 0, 1) := by decide +kernel
theorem dL_law_797 : decode cL_law 797 = .ok (.sipush 160, 3) := by decide +kernel
theorem dL_law_800 : decode cL_law 800 = .ok (.iload 8, 2) := by decide +kernel
theorem dL_law_802 : decode cL_law 802 = .ok (.iadd, 1) := by decide +kernel
theorem dL_law_803 : decode cL_law 803 = .ok (.bipush 100, 2) := by decide +kernel
theorem dL_law_805 : decode cL_law 805 = .ok (.invokestatic 90, 3) := by decide +kernel
theorem dL_law_808 : decode cL_law 808 = .ok (.istore 11, 2) := by decide +kernel
theorem dL_law_810 : decode cL_law 810 = .ok (.iconst 0, 1) := by decide +kernel
theorem dL_law_811 : decode cL_law 811 = .ok (.istore 12, 2) := by decide +kernel
theorem dL_law_813 : decode cL_law 813 = .ok (.iconst 0, 1) := by decide +kernel
theorem dL_law_814 : decode cL_law 814 = .ok (.istore 13, 2) := by decide +kernel
theorem dL_law_816 : decode cL_law 816 = .ok (.sipush (-30000), 3) := by decide +kernel
theorem dL_law_819 : decode cL_law 819 = .ok (.istore 14, 2) := by decide +kernel
theorem dL_law_821 : decode cL_law 821 = .ok (.sipush (-30000), 3) := by decide +kernel
theorem dL_law_824 : decode cL_law 824 = .ok (.istore 15, 2) := by decide +kernel
theorem dL_law_826 : decode cL_law 826 = .ok (.sipush (-30000), 3) := by decide +kernel
theorem dL_law_829 : decode cL_law 829 = .ok (.istore 16, 2) := by decide +kernel
theorem dL_law_831 : decode cL_law 831 = .ok (.lconst 0, 1) := by decide +kernel
theorem dL_law_832 : decode cL_law 832 = .ok (.lstore 17, 2) := by decide +kernel
theorem dL_law_834 : decode cL_law 834 = .ok (.iconst 0, 1) := by decide +kernel
theorem dL_law_835 : decode cL_law 835 = .ok (.istore 19, 2) := by decide +kernel
theorem dL_law_837 : decode cL_law 837 = .ok (.iload 19, 2) := by decide +kernel
theorem dL_law_839 : decode cL_law 839 = .ok (.iload_n 3, 1) := by decide +kernel
theorem dL_law_840 : decode cL_law 840 = .ok (.if_icmp .ge 138, 3) := by decide +kernel
theorem dL_law_843 : decode cL_law 843 = .ok (.aload_n 1, 1) := by decide +kernel
theorem dL_law_844 : decode cL_law 844 = .ok (.iload 19, 2) := by decide +kernel
theorem dL_law_846 : decode cL_law 846 = .ok (.invokevirtual 66, 3) := by decide +kernel
theorem dL_law_849 : decode cL_law 849 = .ok (.istore 20, 2) := by decide +kernel
theorem dL_law_851 : decode cL_law 851 = .ok (.iload 20, 2) := by decide +kernel
theorem dL_law_853 : decode cL_law 853 = .ok (.iload 9, 2) := by decide +kernel
theorem dL_law_855 : decode cL_law 855 = .ok (.if_icmp .gt 8, 3) := by decide +kernel
theorem dL_law_858 : decode cL_law 858 = .ok (.iload 20, 2) := by decide +kernel
theorem dL_law_860 : decode cL_law 860 = .ok (.goto 5, 3) := by decide +kernel
theorem dL_law_863 : decode cL_law 863 = .ok (.iload 15, 2) := by decide +kernel
theorem dL_law_865 : decode cL_law 865 = .ok (.istore 15, 2) := by decide +kernel
theorem dL_law_867 : decode cL_law 867 = .ok (.iload 20, 2) := by decide +kernel
theorem dL_law_869 : decode cL_law 869 = .ok (.iload 9, 2) := by decide +kernel
theorem dL_law_871 : decode cL_law 871 = .ok (.if_icmp .lt 16, 3) := by decide +kernel
theorem dL_law_874 : decode cL_law 874 = .ok (.iload 16, 2) := by decide +kernel
theorem dL_law_876 : decode cL_law 876 = .ok (.sipush (-30000), 3) := by decide +kernel
theorem dL_law_879 : decode cL_law 879 = .ok (.if_icmp .ne 8, 3) := by decide +kernel
theorem dL_law_882 : decode cL_law 882 = .ok (.iload 20, 2) := by decide +kernel
theorem dL_law_884 : decode cL_law 884 = .ok (.goto 5, 3) := by decide +kernel
theorem dL_law_887 : decode cL_law 887 = .ok (.iload 16, 2) := by decide +kernel
theorem dL_law_889 : decode cL_law 889 = .ok (.istore 16, 2) := by decide +kernel
theorem dL_law_891 : decode cL_law 891 = .ok (.iload 20, 2) := by decide +kernel
theorem dL_law_893 : decode cL_law 893 = .ok (.iload 9, 2) := by decide +kernel
theorem dL_law_895 : decode cL_law 895 = .ok (.if_icmp .lt 77, 3) := by decide +kernel
theorem dL_law_898 : decode cL_law 898 = .ok (.iload 20, 2) := by decide +kernel
theorem dL_law_900 : decode cL_law 900 = .ok (.iload 10, 2) := by decide +kernel
theorem dL_law_902 : decode cL_law 902 = .ok (.if_icmp .le 6, 3) := by decide +kernel
theorem dL_law_905 : decode cL_law 905 = .ok (.goto 67, 3) := by decide +kernel
theorem dL_law_908 : decode cL_law 908 = .ok (.iinc 12 1, 3) := by decide +kernel
theorem dL_law_911 : decode cL_law 911 = .ok (.lload 17, 2) := by decide +kernel
theorem dL_law_913 : decode cL_law 913 = .ok (.aload_n 1, 1) := by decide +kernel
theorem dL_law_914 : decode cL_law 914 = .ok (.iload 20, 2) := by decide +kernel
theorem dL_law_916 : decode cL_law 916 = .ok (.invokevirtual 123, 3) := by decide +kernel
