-- decode rows of the law
theorem d_L_law_610 : decode b_L_law 610 = .ok (.iconst 1, 1) := by decide +kernel
theorem d_L_law_611 : decode b_L_law 611 = .ok (.iadd, 1) := by decide +kernel
theorem d_L_law_612 : decode b_L_law 612 = .ok (.iaload, 1) := by decide +kernel
theorem d_L_law_613 : decode b_L_law 613 = .ok (.invokevirtual 86, 3) := by decide +kernel
theorem d_L_law_616 : decode b_L_law 616 = .ok (.aload_n 2, 1) := by decide +kernel
theorem d_L_law_617 : decode b_L_law 617 = .ok (.aload_n 0, 1) := by decide +kernel
theorem d_L_law_618 : decode b_L_law 618 = .ok (.iload 4, 2) := by decide +kernel
theorem d_L_law_620 : decode b_L_law 620 = .ok (.iconst 1, 1) := by decide +kernel
theorem d_L_law_621 : decode b_L_law 621 = .ok (.iadd, 1) := by decide +kernel
theorem d_L_law_622 : decode b_L_law 622 = .ok (.iaload, 1) := by decide +kernel
theorem d_L_law_623 : decode b_L_law 623 = .ok (.invokevirtual 89, 3) := by decide +kernel
theorem d_L_law_626 : decode b_L_law 626 = .ok (.if_icmp .eq 180, 3) := by decide +kernel
theorem d_L_law_629 : decode b_L_law 629 = .ok (.iconst 0, 1) := by decide +kernel
theorem d_L_law_630 : decode b_L_law 630 = .ok (.ireturn, 1) := by decide +kernel
theorem d_L_law_631 : decode b_L_law 631 = .ok (.aload_n 1, 1) := by decide +kernel
theorem d_L_law_632 : decode b_L_law 632 = .ok (.aload_n 0, 1) := by decide +kernel
theorem d_L_law_633 : decode b_L_law 633 = .ok (.iload 4, 2) := by decide +kernel
theorem d_L_law_635 : decode b_L_law 635 = .ok (.iconst 1, 1) := by decide +kernel
theorem d_L_law_636 : decode b_L_law 636 = .ok (.iadd, 1) := by decide +kernel
theorem d_L_law_637 : decode b_L_law 637 = .ok (.iaload, 1) := by decide +kernel
theorem d_L_law_638 : decode b_L_law 638 = .ok (.invokevirtual 90, 3) := by decide +kernel
theorem d_L_law_641 : decode b_L_law 641 = .ok (.aload_n 2, 1) := by decide +kernel
theorem d_L_law_642 : decode b_L_law 642 = .ok (.aload_n 0, 1) := by decide +kernel
theorem d_L_law_643 : decode b_L_law 643 = .ok (.iload 4, 2) := by decide +kernel
theorem d_L_law_645 : decode b_L_law 645 = .ok (.iconst 1, 1) := by decide +kernel
theorem d_L_law_646 : decode b_L_law 646 = .ok (.iadd, 1) := by decide +kernel
theorem d_L_law_647 : decode b_L_law 647 = .ok (.iaload, 1) := by decide +kernel
theorem d_L_law_648 : decode b_L_law 648 = .ok (.invokevirtual 93, 3) := by decide +kernel
theorem d_L_law_651 : decode b_L_law 651 = .ok (.if_icmp .eq 155, 3) := by decide +kernel
theorem d_L_law_654 : decode b_L_law 654 = .ok (.iconst 0, 1) := by decide +kernel
theorem d_L_law_655 : decode b_L_law 655 = .ok (.ireturn, 1) := by decide +kernel
theorem d_L_law_656 : decode b_L_law 656 = .ok (.aload_n 1, 1) := by decide +kernel
theorem d_L_law_657 : decode b_L_law 657 = .ok (.aload_n 0, 1) := by decide +kernel
theorem d_L_law_658 : decode b_L_law 658 = .ok (.iload 4, 2) := by decide +kernel
theorem d_L_law_660 : decode b_L_law 660 = .ok (.iconst 1, 1) := by decide +kernel
theorem d_L_law_661 : decode b_L_law 661 = .ok (.iadd, 1) := by decide +kernel
theorem d_L_law_662 : decode b_L_law 662 = .ok (.iaload, 1) := by decide +kernel
theorem d_L_law_663 : decode b_L_law 663 = .ok (.invokevirtual 94, 3) := by decide +kernel
theorem d_L_law_666 : decode b_L_law 666 = .ok (.aload_n 2, 1) := by decide +kernel
theorem d_L_law_667 : decode b_L_law 667 = .ok (.aload_n 0, 1) := by decide +kernel
theorem d_L_law_668 : decode b_L_law 668 = .ok (.iload 4, 2) := by decide +kernel
theorem d_L_law_670 : decode b_L_law 670 = .ok (.iconst 1, 1) := by decide +kernel
theorem d_L_law_671 : decode b_L_law 671 = .ok (.iadd, 1) := by decide +kernel
theorem d_L_law_672 : decode b_L_law 672 = .ok (.iaload, 1) := by decide +kernel
theorem d_L_law_673 : decode b_L_law 673 = .ok (.invokevirtual 97, 3) := by decide +kernel
theorem d_L_law_676 : decode b_L_law 676 = .ok (.if_icmp .eq 130, 3) := by decide +kernel
theorem d_L_law_679 : decode b_L_law 679 = .ok (.iconst 0, 1) := by decide +kernel
theorem d_L_law_680 : decode b_L_law 680 = .ok (.ireturn, 1) := by decide +kernel
theorem d_L_law_681 : decode b_L_law 681 = .ok (.aload_n 1, 1) := by decide +kernel
theorem d_L_law_682 : decode b_L_law 682 = .ok (.aload_n 0, 1) := by decide +kernel
theorem d_L_law_683 : decode b_L_law 683 = .ok (.iload 4, 2) := by decide +kernel
theorem d_L_law_685 : decode b_L_law 685 = .ok (.iconst 1, 1) := by decide +kernel
theorem d_L_law_686 : decode b_L_law 686 = .ok (.iadd, 1) := by decide +kernel
theorem d_L_law_687 : decode b_L_law 687 = .ok (.iaload, 1) := by decide +kernel
theorem d_L_law_688 : decode b_L_law 688 = .ok (.aload_n 0, 1) := by decide +kernel
theorem d_L_law_689 : decode b_L_law 689 = .ok (.iload 4, 2) := by decide +kernel
theorem d_L_law_691 : decode b_L_law 691 = .ok (.iconst 2, 1) := by decide +kernel
theorem d_L_law_692 : decode b_L_law 692 = .ok (.iadd, 1) := by decide +kernel
theorem d_L_law_693 : decode b_L_law 693 = .ok (.iaload, 1) := by decide +kernel
theorem d_L_law_694 : decode b_L_law 694 = .ok (.invokevirtual 98, 3) := by decide +kernel
theorem d_L_law_697 : decode b_L_law 697 = .ok (.aload_n 2, 1) := by decide +kernel
theorem d_L_law_698 : decode b_L_law 698 = .ok (.aload_n 0, 1) := by decide +kernel
theorem d_L_law_699 : decode b_L_law 699 = .ok (.iload 4, 2) := by decide +kernel
theorem d_L_law_701 : decode b_L_law 701 = .ok (.iconst 1, 1) := by decide +kernel
theorem d_L_law_702 : decode b_L_law 702 = .ok (.iadd, 1) := by decide +kernel
theorem d_L_law_703 : decode b_L_law 703 = .ok (.iaload, 1) := by decide +kernel
theorem d_L_law_704 : decode b_L_law 704 = .ok (.aload_n 0, 1) := by decide +kernel
theorem d_L_law_705 : decode b_L_law 705 = .ok (.iload 4, 2) := by decide +kernel
theorem d_L_law_707 : decode b_L_law 707 = .ok (.iconst 2, 1) := by decide +kernel
theorem d_L_law_708 : decode b_L_law 708 = .ok (.iadd, 1) := by decide +kernel
theorem d_L_law_709 : decode b_L_law 709 = .ok (.iaload, 1) := by decide +kernel
theorem d_L_law_710 : decode b_L_law 710 = .ok (.invokevirtual 102, 3) := by decide +kernel
theorem d_L_law_713 : decode b_L_law 713 = .ok (.if_icmp .eq 93, 3) := by decide +kernel
theorem d_L_law_716 : decode b_L_law 716 = .ok (.iconst 0, 1) := by decide +kernel
theorem d_L_law_717 : decode b_L_law 717 = .ok (.ireturn, 1) := by decide +kernel
theorem d_L_law_718 : decode b_L_law 718 = .ok (.aload_n 1, 1) := by decide +kernel
theorem d_L_law_719 : decode b_L_law 719 = .ok (.aload_n 0, 1) := by decide +kernel
theorem d_L_law_720 : decode b_L_law 720 = .ok (.iload 4, 2) := by decide +kernel
theorem d_L_law_722 : decode b_L_law 722 = .ok (.iconst 1, 1) := by decide +kernel
theorem d_L_law_723 : decode b_L_law 723 = .ok (.iadd, 1) := by decide +kernel
theorem d_L_law_724 : decode b_L_law 724 = .ok (.iaload, 1) := by decide +kernel
theorem d_L_law_725 : decode b_L_law 725 = .ok (.invokevirtual 103, 3) := by decide +kernel
theorem d_L_law_728 : decode b_L_law 728 = .ok (.aload_n 2, 1) := by decide +kernel
theorem d_L_law_729 : decode b_L_law 729 = .ok (.aload_n 0, 1) := by decide +kernel
theorem d_L_law_730 : decode b_L_law 730 = .ok (.iload 4, 2) := by decide +kernel
theorem d_L_law_732 : decode b_L_law 732 = .ok (.iconst 1, 1) := by decide +kernel
theorem d_L_law_733 : decode b_L_law 733 = .ok (.iadd, 1) := by decide +kernel
theorem d_L_law_734 : decode b_L_law 734 = .ok (.iaload, 1) := by decide +kernel
theorem d_L_law_735 : decode b_L_law 735 = .ok (.invokevirtual 106, 3) := by decide +kernel
theorem d_L_law_738 : decode b_L_law 738 = .ok (.if_icmp .eq 68, 3) := by decide +kernel
theorem d_L_law_741 : decode b_L_law 741 = .ok (.iconst 0, 1) := by decide +kernel
theorem d_L_law_742 : decode b_L_law 742 = .ok (.ireturn, 1) := by decide +kernel
theorem d_L_law_743 : decode b_L_law 743 = .ok (.aload_n 1, 1) := by decide +kernel
theorem d_L_law_744 : decode b_L_law 744 = .ok (.aload_n 0, 1) := by decide +kernel
theorem d_L_law_745 : decode b_L_law 745 = .ok (.iload 4, 2) := by decide +kernel
theorem d_L_law_747 : decode b_L_law 747 = .ok (.iconst 1, 1) := by decide +kernel
theorem d_L_law_748 : decode b_L_law 748 = .ok (.iadd, 1) := by decide +kernel
theorem d_L_law_749 : decode b_L_law 749 = .ok (.iaload, 1) := by decide +kernel
theorem d_L_law_750 : decode b_L_law 750 = .ok (.invokevirtual 107, 3) := by decide +kernel
theorem d_L_law_753 : decode b_L_law 753 = .ok (.aload_n 2, 1) := by decide +kernel
theorem d_L_law_754 : decode b_L_law 754 = .ok (.aload_n 0, 1) := by decide +kernel
theorem d_L_law_755 : decode b_L_law 755 = .ok (.iload 4, 2) := by decide +kernel
theorem d_L_law_757 : decode b_L_law 757 = .ok (.iconst 1, 1) := by decide +kernel
theorem d_L_law_758 : decode b_L_law 758 = .ok (.iadd, 1) := by decide +kernel
theorem d_L_law_759 : decode b_L_law 759 = .ok (.iaload, 1) := by decide +kernel
theorem d_L_law_760 : decode b_L_law 760 = .ok (.invokevirtual 110, 3) := by decide +kernel
theorem d_L_law_763 : decode b_L_law 763 = .ok (.if_icmp .eq 43, 3) := by decide +kernel
theorem d_L_law_766 : decode b_L_law 766 = .ok (.iconst 0, 1) := by decide +kernel
theorem d_L_law_767 : decode b_L_law 767 = .ok (.ireturn, 1) := by decide +kernel
theorem d_L_law_768 : decode b_L_law 768 = .ok (.aload_n 1, 1) := by decide +kernel
theorem d_L_law_769 : decode b_L_law 769 = .ok (.invokevirtual 111, 3) := by decide +kernel
theorem d_L_law_772 : decode b_L_law 772 = .ok (.aload_n 2, 1) := by decide +kernel
theorem d_L_law_773 : decode b_L_law 773 = .ok (.invokevirtual 114, 3) := by decide +kernel
theorem d_L_law_776 : decode b_L_law 776 = .ok (.if_icmp .eq 30, 3) := by decide +kernel
theorem d_L_law_779 : decode b_L_law 779 = .ok (.iconst 0, 1) := by decide +kernel
theorem d_L_law_780 : decode b_L_law 780 = .ok (.ireturn, 1) := by decide +kernel
theorem d_L_law_781 : decode b_L_law 781 = .ok (.aload_n 1, 1) := by decide +kernel
theorem d_L_law_782 : decode b_L_law 782 = .ok (.aload_n 0, 1) := by decide +kernel
theorem d_L_law_783 : decode b_L_law 783 = .ok (.iload 4, 2) := by decide +kernel
theorem d_L_law_785 : decode b_L_law 785 = .ok (.iconst 1, 1) := by decide +kernel
theorem d_L_law_786 : decode b_L_law 786 = .ok (.iadd, 1) := by decide +kernel
theorem d_L_law_787 : decode b_L_law 787 = .ok (.iaload, 1) := by decide +kernel
theorem d_L_law_788 : decode b_L_law 788 = .ok (.invokevirtual 115, 3) := by decide +kernel
theorem d_L_law_791 : decode b_L_law 791 = .ok (.aload_n 2, 1) := by decide +kernel
theorem d_L_law_792 : decode b_L_law 792 = .ok (.aload_n 0, 1) := by decide +kernel
theorem d_L_law_793 : decode b_L_law 793 = .ok (.iload 4, 2) := by decide +kernel
theorem d_L_law_795 : decode b_L_law 795 = .ok (.iconst 1, 1) := by decide +kernel
theorem d_L_law_796 : decode b_L_law 796 = .ok (.iadd, 1) := by decide +kernel
theorem d_L_law_797 : decode b_L_law 797 = .ok (.iaload, 1) := by decide +kernel
theorem d_L_law_798 : decode b_L_law 798 = .ok (.invokevirtual 118, 3) := by decide +kernel
theorem d_L_law_801 : decode b_L_law 801 = .ok (.if_icmp .eq 5, 3) := by decide +kernel
theorem d_L_law_804 : decode b_L_law 804 = .ok (.iconst 0, 1) := by decide +kernel
theorem d_L_law_805 : decode b_L_law 805 = .ok (.ireturn, 1) := by decide +kernel
theorem d_L_law_806 : decode b_L_law 806 = .ok (.iinc 4 5, 3) := by decide +kernel
theorem d_L_law_809 : decode b_L_law 809 = .ok (.goto (-786), 3) := by decide +kernel
theorem d_L_law_812 : decode b_L_law 812 = .ok (.iconst 1, 1) := by decide +kernel
theorem d_L_law_813 : decode b_L_law 813 = .ok (.ireturn, 1) := by decide +kernel
