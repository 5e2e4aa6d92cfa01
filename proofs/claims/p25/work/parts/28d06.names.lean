theorem dL_law_667 : decode cL_law 667 = .ok (.if_icmp .ne 39, 3) := by decide +kernel
theorem dL_law_670 : decode cL_law 670 = .ok (.aload_n 1, 1) := by decide +kernel
theorem dL_law_671 : decode cL_law 671 = .ok (.iload 20, 2) := by decide +kernel
theorem dL_law_673 : decode cL_law 673 = .ok (.iconst 5, 1) := by decide +kernel
theorem dL_law_674 : decode cL_law 674 = .ok (.invokevirtual 114, 3) := by decide +kernel
theorem dL_law_677 : decode cL_law 677 = .ok (.aload 7, 2) := by decide +kernel
theorem dL_law_679 : decode cL_law 679 = .ok (.iload 20, 2) := by decide +kernel
theorem dL_law_681 : decode cL_law 681 = .ok (.aaload, 1) := by decide +kernel
theorem dL_law_682 : decode cL_law 682 = .ok (.iconst 5, 1) := by decide +kernel
theorem dL_law_683 : decode cL_law 683 = .ok (.iaload, 1) := by decide +kernel
theorem dL_law_684 : decode cL_law 684 = .ok (.if_icmp .ne 22, 3) := by decide +kernel
theorem dL_law_687 : decode cL_law 687 = .ok (.aload_n 1, 1) := by decide +kernel
theorem dL_law_688 : decode cL_law 688 = .ok (.iload 20, 2) := by decide +kernel
theorem dL_law_690 : decode cL_law 690 = .ok (.bipush 8, 2) := by decide +kernel
theorem dL_law_692 : decode cL_law 692 = .ok (.invokevirtual 114, 3) := by decide +kernel
theorem dL_law_695 : decode cL_law 695 = .ok (.aload 7, 2) := by decide +kernel
theorem dL_law_697 : decode cL_law 697 = .ok (.iload 20, 2) := by decide +kernel
theorem dL_law_699 : decode cL_law 699 = .ok (.aaload, 1) := by decide +kernel
theorem dL_law_700 : decode cL_law 700 = .ok (.bipush 8, 2) := by decide +kernel
theorem dL_law_702 : decode cL_law 702 = .ok (.iaload, 1) := by decide +kernel
theorem dL_law_703 : decode cL_law 703 = .ok (.if_icmp .eq 5, 3) := by decide +kernel
theorem dL_law_706 : decode cL_law 706 = .ok (.iconst 0, 1) := by decide +kernel
theorem dL_law_707 : decode cL_law 707 = .ok (.ireturn, 1) := by decide +kernel
theorem dL_law_708 : decode cL_law 708 = .ok (.iload 21, 2) := by decide +kernel
theorem dL_law_710 : decode cL_law 710 = .ok (.iconst 1, 1) := by decide +kernel
theorem dL_law_711 : decode cL_law 711 = .ok (.if_icmp .ne 13, 3) := by decide +kernel
theorem dL_law_714 : decode cL_law 714 = .ok (.aload_n 1, 1) := by decide +kernel
theorem dL_law_715 : decode cL_law 715 = .ok (.iload 20, 2) := by decide +kernel
theorem dL_law_717 : decode cL_law 717 = .ok (.iconst 5, 1) := by decide +kernel
theorem dL_law_718 : decode cL_law 718 = .ok (.invokevirtual 114, 3) := by decide +kernel
theorem dL_law_721 : decode cL_law 721 = .ok (.ifCond .ne 68, 3) := by decide +kernel
theorem dL_law_724 : decode cL_law 724 = .ok (.iload 21, 2) := by decide +kernel
theorem dL_law_726 : decode cL_law 726 = .ok (.ifCond .le 26, 3) := by decide +kernel
theorem dL_law_729 : decode cL_law 729 = .ok (.aload_n 1, 1) := by decide +kernel
theorem dL_law_730 : decode cL_law 730 = .ok (.iload 20, 2) := by decide +kernel
theorem dL_law_732 : decode cL_law 732 = .ok (.bipush 7, 2) := by decide +kernel
theorem dL_law_734 : decode cL_law 734 = .ok (.invokevirtual 114, 3) := by decide +kernel
theorem dL_law_737 : decode cL_law 737 = .ok (.iconst (-1), 1) := by decide +kernel
theorem dL_law_738 : decode cL_law 738 = .ok (.if_icmp .ne 51, 3) := by decide +kernel
theorem dL_law_741 : decode cL_law 741 = .ok (.aload_n 1, 1) := by decide +kernel
theorem dL_law_742 : decode cL_law 742 = .ok (.iload 20, 2) := by decide +kernel
theorem dL_law_744 : decode cL_law 744 = .ok (.bipush 10, 2) := by decide +kernel
theorem dL_law_746 : decode cL_law 746 = .ok (.invokevirtual 114, 3) := by decide +kernel
theorem dL_law_749 : decode cL_law 749 = .ok (.ifCond .ne 40, 3) := by decide +kernel
theorem dL_law_752 : decode cL_law 752 = .ok (.iload 21, 2) := by decide +kernel
theorem dL_law_754 : decode cL_law 754 = .ok (.iconst 2, 1) := by decide +kernel
theorem dL_law_755 : decode cL_law 755 = .ok (.if_icmp .ne 16, 3) := by decide +kernel
theorem dL_law_758 : decode cL_law 758 = .ok (.aload_n 1, 1) := by decide +kernel
theorem dL_law_759 : decode cL_law 759 = .ok (.iload 20, 2) := by decide +kernel
theorem dL_law_761 : decode cL_law 761 = .ok (.bipush 8, 2) := by decide +kernel
theorem dL_law_763 : decode cL_law 763 = .ok (.invokevirtual 114, 3) := by decide +kernel
theorem dL_law_766 : decode cL_law 766 = .ok (.bipush 29, 2) := by decide +kernel
theorem dL_law_768 : decode cL_law 768 = .ok (.if_icmp .ne 21, 3) := by decide +kernel
theorem dL_law_771 : decode cL_law 771 = .ok (.iload 21, 2) := by decide +kernel
theorem dL_law_773 : decode cL_law 773 = .ok (.ifCond .ne 18, 3) := by decide +kernel
theorem dL_law_776 : decode cL_law 776 = .ok (.aload_n 1, 1) := by decide +kernel
theorem dL_law_777 : decode cL_law 777 = .ok (.iload 20, 2) := by decide +kernel
theorem dL_law_779 : decode cL_law 779 = .ok (.bipush 8, 2) := by decide +kernel
theorem dL_law_781 : decode cL_law 781 = .ok (.invokevirtual 114, 3) := by decide +kernel
theorem dL_law_784 : decode cL_law 784 = .ok (.bipush 29, 2) := by decide +kernel
