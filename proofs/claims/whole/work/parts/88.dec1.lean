set_option maxRecDepth 100000
theorem d_L_law_578 : dec m_L_law 578 = .ok (.invokevirtual 67, 3) := by decide +kernel
theorem d_L_law_581 : dec m_L_law 581 = .ok (.aload_n 2, 1) := by decide +kernel
theorem d_L_law_582 : dec m_L_law 582 = .ok (.aload_n 0, 1) := by decide +kernel
theorem d_L_law_583 : dec m_L_law 583 = .ok (.iload_n 3, 1) := by decide +kernel
theorem d_L_law_584 : dec m_L_law 584 = .ok (.iconst 1, 1) := by decide +kernel
theorem d_L_law_585 : dec m_L_law 585 = .ok (.iadd, 1) := by decide +kernel
theorem d_L_law_586 : dec m_L_law 586 = .ok (.iaload, 1) := by decide +kernel
theorem d_L_law_587 : dec m_L_law 587 = .ok (.invokevirtual 70, 3) := by decide +kernel
theorem d_L_law_590 : dec m_L_law 590 = .ok (.if_icmp .eq 1019, 3) := by decide +kernel
theorem d_L_law_593 : dec m_L_law 593 = .ok (.iconst 0, 1) := by decide +kernel
theorem d_L_law_594 : dec m_L_law 594 = .ok (.ireturn, 1) := by decide +kernel
theorem d_L_law_595 : dec m_L_law 595 = .ok (.aload_n 1, 1) := by decide +kernel
theorem d_L_law_596 : dec m_L_law 596 = .ok (.aload_n 0, 1) := by decide +kernel
theorem d_L_law_597 : dec m_L_law 597 = .ok (.iload_n 3, 1) := by decide +kernel
theorem d_L_law_598 : dec m_L_law 598 = .ok (.iconst 1, 1) := by decide +kernel
theorem d_L_law_599 : dec m_L_law 599 = .ok (.iadd, 1) := by decide +kernel
theorem d_L_law_600 : dec m_L_law 600 = .ok (.iaload, 1) := by decide +kernel
theorem d_L_law_601 : dec m_L_law 601 = .ok (.aload_n 0, 1) := by decide +kernel
theorem d_L_law_602 : dec m_L_law 602 = .ok (.iload_n 3, 1) := by decide +kernel
theorem d_L_law_603 : dec m_L_law 603 = .ok (.iconst 2, 1) := by decide +kernel
theorem d_L_law_604 : dec m_L_law 604 = .ok (.iadd, 1) := by decide +kernel
theorem d_L_law_605 : dec m_L_law 605 = .ok (.iaload, 1) := by decide +kernel
theorem d_L_law_606 : dec m_L_law 606 = .ok (.invokevirtual 71, 3) := by decide +kernel
theorem d_L_law_609 : dec m_L_law 609 = .ok (.aload_n 2, 1) := by decide +kernel
theorem d_L_law_610 : dec m_L_law 610 = .ok (.aload_n 0, 1) := by decide +kernel
theorem d_L_law_611 : dec m_L_law 611 = .ok (.iload_n 3, 1) := by decide +kernel
theorem d_L_law_612 : dec m_L_law 612 = .ok (.iconst 1, 1) := by decide +kernel
theorem d_L_law_613 : dec m_L_law 613 = .ok (.iadd, 1) := by decide +kernel
theorem d_L_law_614 : dec m_L_law 614 = .ok (.iaload, 1) := by decide +kernel
theorem d_L_law_615 : dec m_L_law 615 = .ok (.aload_n 0, 1) := by decide +kernel
theorem d_L_law_616 : dec m_L_law 616 = .ok (.iload_n 3, 1) := by decide +kernel
theorem d_L_law_617 : dec m_L_law 617 = .ok (.iconst 2, 1) := by decide +kernel
theorem d_L_law_618 : dec m_L_law 618 = .ok (.iadd, 1) := by decide +kernel
theorem d_L_law_619 : dec m_L_law 619 = .ok (.iaload, 1) := by decide +kernel
theorem d_L_law_620 : dec m_L_law 620 = .ok (.invokevirtual 74, 3) := by decide +kernel
theorem d_L_law_623 : dec m_L_law 623 = .ok (.if_icmp .eq 986, 3) := by decide +kernel
theorem d_L_law_626 : dec m_L_law 626 = .ok (.iconst 0, 1) := by decide +kernel
theorem d_L_law_627 : dec m_L_law 627 = .ok (.ireturn, 1) := by decide +kernel
theorem d_L_law_628 : dec m_L_law 628 = .ok (.aload_n 1, 1) := by decide +kernel
theorem d_L_law_629 : dec m_L_law 629 = .ok (.aload_n 0, 1) := by decide +kernel
theorem d_L_law_630 : dec m_L_law 630 = .ok (.iload_n 3, 1) := by decide +kernel
theorem d_L_law_631 : dec m_L_law 631 = .ok (.iconst 1, 1) := by decide +kernel
theorem d_L_law_632 : dec m_L_law 632 = .ok (.iadd, 1) := by decide +kernel
theorem d_L_law_633 : dec m_L_law 633 = .ok (.iaload, 1) := by decide +kernel
theorem d_L_law_634 : dec m_L_law 634 = .ok (.aload_n 0, 1) := by decide +kernel
theorem d_L_law_635 : dec m_L_law 635 = .ok (.iload_n 3, 1) := by decide +kernel
theorem d_L_law_636 : dec m_L_law 636 = .ok (.iconst 2, 1) := by decide +kernel
theorem d_L_law_637 : dec m_L_law 637 = .ok (.iadd, 1) := by decide +kernel
theorem d_L_law_638 : dec m_L_law 638 = .ok (.iaload, 1) := by decide +kernel
theorem d_L_law_639 : dec m_L_law 639 = .ok (.ifCond .eq 7, 3) := by decide +kernel
theorem d_L_law_642 : dec m_L_law 642 = .ok (.iconst 1, 1) := by decide +kernel
theorem d_L_law_643 : dec m_L_law 643 = .ok (.goto 4, 3) := by decide +kernel
theorem d_L_law_646 : dec m_L_law 646 = .ok (.iconst 0, 1) := by decide +kernel
theorem d_L_law_647 : dec m_L_law 647 = .ok (.aload_n 0, 1) := by decide +kernel
theorem d_L_law_648 : dec m_L_law 648 = .ok (.iload_n 3, 1) := by decide +kernel
theorem d_L_law_649 : dec m_L_law 649 = .ok (.iconst 3, 1) := by decide +kernel
theorem d_L_law_650 : dec m_L_law 650 = .ok (.iadd, 1) := by decide +kernel
theorem d_L_law_651 : dec m_L_law 651 = .ok (.iaload, 1) := by decide +kernel
theorem d_L_law_652 : dec m_L_law 652 = .ok (.aload_n 0, 1) := by decide +kernel
theorem d_L_law_653 : dec m_L_law 653 = .ok (.iload_n 3, 1) := by decide +kernel
theorem d_L_law_654 : dec m_L_law 654 = .ok (.iconst 4, 1) := by decide +kernel
theorem d_L_law_655 : dec m_L_law 655 = .ok (.iadd, 1) := by decide +kernel
theorem d_L_law_656 : dec m_L_law 656 = .ok (.iaload, 1) := by decide +kernel
theorem d_L_law_657 : dec m_L_law 657 = .ok (.invokevirtual 75, 3) := by decide +kernel
theorem d_L_law_660 : dec m_L_law 660 = .ok (.aload_n 2, 1) := by decide +kernel
theorem d_L_law_661 : dec m_L_law 661 = .ok (.aload_n 0, 1) := by decide +kernel
theorem d_L_law_662 : dec m_L_law 662 = .ok (.iload_n 3, 1) := by decide +kernel
theorem d_L_law_663 : dec m_L_law 663 = .ok (.iconst 1, 1) := by decide +kernel
theorem d_L_law_664 : dec m_L_law 664 = .ok (.iadd, 1) := by decide +kernel
theorem d_L_law_665 : dec m_L_law 665 = .ok (.iaload, 1) := by decide +kernel
theorem d_L_law_666 : dec m_L_law 666 = .ok (.aload_n 0, 1) := by decide +kernel
theorem d_L_law_667 : dec m_L_law 667 = .ok (.iload_n 3, 1) := by decide +kernel
theorem d_L_law_668 : dec m_L_law 668 = .ok (.iconst 2, 1) := by decide +kernel
theorem d_L_law_669 : dec m_L_law 669 = .ok (.iadd, 1) := by decide +kernel
theorem d_L_law_670 : dec m_L_law 670 = .ok (.iaload, 1) := by decide +kernel
theorem d_L_law_671 : dec m_L_law 671 = .ok (.ifCond .eq 7, 3) := by decide +kernel
theorem d_L_law_674 : dec m_L_law 674 = .ok (.iconst 1, 1) := by decide +kernel
theorem d_L_law_675 : dec m_L_law 675 = .ok (.goto 4, 3) := by decide +kernel
theorem d_L_law_678 : dec m_L_law 678 = .ok (.iconst 0, 1) := by decide +kernel
theorem d_L_law_679 : dec m_L_law 679 = .ok (.aload_n 0, 1) := by decide +kernel
theorem d_L_law_680 : dec m_L_law 680 = .ok (.iload_n 3, 1) := by decide +kernel
theorem d_L_law_681 : dec m_L_law 681 = .ok (.iconst 3, 1) := by decide +kernel
theorem d_L_law_682 : dec m_L_law 682 = .ok (.iadd, 1) := by decide +kernel
theorem d_L_law_683 : dec m_L_law 683 = .ok (.iaload, 1) := by decide +kernel
theorem d_L_law_684 : dec m_L_law 684 = .ok (.aload_n 0, 1) := by decide +kernel
theorem d_L_law_685 : dec m_L_law 685 = .ok (.iload_n 3, 1) := by decide +kernel
theorem d_L_law_686 : dec m_L_law 686 = .ok (.iconst 4, 1) := by decide +kernel
theorem d_L_law_687 : dec m_L_law 687 = .ok (.iadd, 1) := by decide +kernel
theorem d_L_law_688 : dec m_L_law 688 = .ok (.iaload, 1) := by decide +kernel
theorem d_L_law_689 : dec m_L_law 689 = .ok (.invokevirtual 79, 3) := by decide +kernel
theorem d_L_law_692 : dec m_L_law 692 = .ok (.if_icmp .eq 917, 3) := by decide +kernel
theorem d_L_law_695 : dec m_L_law 695 = .ok (.iconst 0, 1) := by decide +kernel
theorem d_L_law_696 : dec m_L_law 696 = .ok (.ireturn, 1) := by decide +kernel
theorem d_L_law_697 : dec m_L_law 697 = .ok (.aload_n 1, 1) := by decide +kernel
theorem d_L_law_698 : dec m_L_law 698 = .ok (.aload_n 0, 1) := by decide +kernel
theorem d_L_law_699 : dec m_L_law 699 = .ok (.iload_n 3, 1) := by decide +kernel
theorem d_L_law_700 : dec m_L_law 700 = .ok (.iconst 1, 1) := by decide +kernel
theorem d_L_law_701 : dec m_L_law 701 = .ok (.iadd, 1) := by decide +kernel
theorem d_L_law_702 : dec m_L_law 702 = .ok (.iaload, 1) := by decide +kernel
theorem d_L_law_703 : dec m_L_law 703 = .ok (.aload_n 0, 1) := by decide +kernel
theorem d_L_law_704 : dec m_L_law 704 = .ok (.iload_n 3, 1) := by decide +kernel
theorem d_L_law_705 : dec m_L_law 705 = .ok (.iconst 2, 1) := by decide +kernel
theorem d_L_law_706 : dec m_L_law 706 = .ok (.iadd, 1) := by decide +kernel
theorem d_L_law_707 : dec m_L_law 707 = .ok (.iaload, 1) := by decide +kernel
theorem d_L_law_708 : dec m_L_law 708 = .ok (.invokevirtual 80, 3) := by decide +kernel
theorem d_L_law_711 : dec m_L_law 711 = .ok (.aload_n 2, 1) := by decide +kernel
theorem d_L_law_712 : dec m_L_law 712 = .ok (.aload_n 0, 1) := by decide +kernel
theorem d_L_law_713 : dec m_L_law 713 = .ok (.iload_n 3, 1) := by decide +kernel
theorem d_L_law_714 : dec m_L_law 714 = .ok (.iconst 1, 1) := by decide +kernel
theorem d_L_law_715 : dec m_L_law 715 = .ok (.iadd, 1) := by decide +kernel
theorem d_L_law_716 : dec m_L_law 716 = .ok (.iaload, 1) := by decide +kernel
theorem d_L_law_717 : dec m_L_law 717 = .ok (.aload_n 0, 1) := by decide +kernel
theorem d_L_law_718 : dec m_L_law 718 = .ok (.iload_n 3, 1) := by decide +kernel
theorem d_L_law_719 : dec m_L_law 719 = .ok (.iconst 2, 1) := by decide +kernel
theorem d_L_law_720 : dec m_L_law 720 = .ok (.iadd, 1) := by decide +kernel
theorem d_L_law_721 : dec m_L_law 721 = .ok (.iaload, 1) := by decide +kernel
theorem d_L_law_722 : dec m_L_law 722 = .ok (.invokevirtual 83, 3) := by decide +kernel
theorem d_L_law_725 : dec m_L_law 725 = .ok (.if_icmp .eq 884, 3) := by decide +kernel
theorem d_L_law_728 : dec m_L_law 728 = .ok (.iconst 0, 1) := by decide +kernel
theorem d_L_law_729 : dec m_L_law 729 = .ok (.ireturn, 1) := by decide +kernel
theorem d_L_law_730 : dec m_L_law 730 = .ok (.aload_n 1, 1) := by decide +kernel
theorem d_L_law_731 : dec m_L_law 731 = .ok (.aload_n 0, 1) := by decide +kernel
theorem d_L_law_732 : dec m_L_law 732 = .ok (.iload_n 3, 1) := by decide +kernel
theorem d_L_law_733 : dec m_L_law 733 = .ok (.iconst 1, 1) := by decide +kernel
theorem d_L_law_734 : dec m_L_law 734 = .ok (.iadd, 1) := by decide +kernel
theorem d_L_law_735 : dec m_L_law 735 = .ok (.iaload, 1) := by decide +kernel
theorem d_L_law_736 : dec m_L_law 736 = .ok (.aload_n 0, 1) := by decide +kernel
theorem d_L_law_737 : dec m_L_law 737 = .ok (.iload_n 3, 1) := by decide +kernel
theorem d_L_law_738 : dec m_L_law 738 = .ok (.iconst 2, 1) := by decide +kernel
theorem d_L_law_739 : dec m_L_law 739 = .ok (.iadd, 1) := by decide +kernel
theorem d_L_law_740 : dec m_L_law 740 = .ok (.iaload, 1) := by decide +kernel
theorem d_L_law_741 : dec m_L_law 741 = .ok (.invokevirtual 84, 3) := by decide +kernel
theorem d_L_law_744 : dec m_L_law 744 = .ok (.aload_n 2, 1) := by decide +kernel
theorem d_L_law_745 : dec m_L_law 745 = .ok (.aload_n 0, 1) := by decide +kernel
theorem d_L_law_746 : dec m_L_law 746 = .ok (.iload_n 3, 1) := by decide +kernel
theorem d_L_law_747 : dec m_L_law 747 = .ok (.iconst 1, 1) := by decide +kernel
theorem d_L_law_748 : dec m_L_law 748 = .ok (.iadd, 1) := by decide +kernel
theorem d_L_law_749 : dec m_L_law 749 = .ok (.iaload, 1) := by decide +kernel
theorem d_L_law_750 : dec m_L_law 750 = .ok (.aload_n 0, 1) := by decide +kernel
theorem d_L_law_751 : dec m_L_law 751 = .ok (.iload_n 3, 1) := by decide +kernel
theorem d_L_law_752 : dec m_L_law 752 = .ok (.iconst 2, 1) := by decide +kernel
theorem d_L_law_753 : dec m_L_law 753 = .ok (.iadd, 1) := by decide +kernel
theorem d_L_law_754 : dec m_L_law 754 = .ok (.iaload, 1) := by decide +kernel
theorem d_L_law_755 : dec m_L_law 755 = .ok (.invokevirtual 87, 3) := by decide +kernel
theorem d_L_law_758 : dec m_L_law 758 = .ok (.if_icmp .eq 851, 3) := by decide +kernel
theorem d_L_law_761 : dec m_L_law 761 = .ok (.iconst 0, 1) := by decide +kernel
theorem d_L_law_762 : dec m_L_law 762 = .ok (.ireturn, 1) := by decide +kernel
theorem d_L_law_763 : dec m_L_law 763 = .ok (.aload_n 1, 1) := by decide +kernel
theorem d_L_law_764 : dec m_L_law 764 = .ok (.aload_n 0, 1) := by decide +kernel
theorem d_L_law_765 : dec m_L_law 765 = .ok (.iload_n 3, 1) := by decide +kernel
theorem d_L_law_766 : dec m_L_law 766 = .ok (.iconst 1, 1) := by decide +kernel
theorem d_L_law_767 : dec m_L_law 767 = .ok (.iadd, 1) := by decide +kernel
theorem d_L_law_768 : dec m_L_law 768 = .ok (.iaload, 1) := by decide +kernel
theorem d_L_law_769 : dec m_L_law 769 = .ok (.aload_n 0, 1) := by decide +kernel
theorem d_L_law_770 : dec m_L_law 770 = .ok (.iload_n 3, 1) := by decide +kernel
theorem d_L_law_771 : dec m_L_law 771 = .ok (.iconst 2, 1) := by decide +kernel
theorem d_L_law_772 : dec m_L_law 772 = .ok (.iadd, 1) := by decide +kernel
theorem d_L_law_773 : dec m_L_law 773 = .ok (.iaload, 1) := by decide +kernel
theorem d_L_law_774 : dec m_L_law 774 = .ok (.invokevirtual 88, 3) := by decide +kernel
theorem d_L_law_777 : dec m_L_law 777 = .ok (.aload_n 2, 1) := by decide +kernel
theorem d_L_law_778 : dec m_L_law 778 = .ok (.aload_n 0, 1) := by decide +kernel
theorem d_L_law_779 : dec m_L_law 779 = .ok (.iload_n 3, 1) := by decide +kernel
theorem d_L_law_780 : dec m_L_law 780 = .ok (.iconst 1, 1) := by decide +kernel
theorem d_L_law_781 : dec m_L_law 781 = .ok (.iadd, 1) := by decide +kernel
theorem d_L_law_782 : dec m_L_law 782 = .ok (.iaload, 1) := by decide +kernel
theorem d_L_law_783 : dec m_L_law 783 = .ok (.aload_n 0, 1) := by decide +kernel
theorem d_L_law_784 : dec m_L_law 784 = .ok (.iload_n 3, 1) := by decide +kernel
theorem d_L_law_785 : dec m_L_law 785 = .ok (.iconst 2, 1) := by decide +kernel
theorem d_L_law_786 : dec m_L_law 786 = .ok (.iadd, 1) := by decide +kernel
theorem d_L_law_787 : dec m_L_law 787 = .ok (.iaload, 1) := by decide +kernel
theorem d_L_law_788 : dec m_L_law 788 = .ok (.invokevirtual 91, 3) := by decide +kernel
theorem d_L_law_791 : dec m_L_law 791 = .ok (.if_icmp .eq 818, 3) := by decide +kernel
theorem d_L_law_794 : dec m_L_law 794 = .ok (.iconst 0, 1) := by decide +kernel
theorem d_L_law_795 : dec m_L_law 795 = .ok (.ireturn, 1) := by decide +kernel
theorem d_L_law_796 : dec m_L_law 796 = .ok (.aload_n 1, 1) := by decide +kernel
theorem d_L_law_797 : dec m_L_law 797 = .ok (.aload_n 0, 1) := by decide +kernel
theorem d_L_law_798 : dec m_L_law 798 = .ok (.iload_n 3, 1) := by decide +kernel
theorem d_L_law_799 : dec m_L_law 799 = .ok (.iconst 1, 1) := by decide +kernel
theorem d_L_law_800 : dec m_L_law 800 = .ok (.iadd, 1) := by decide +kernel
theorem d_L_law_801 : dec m_L_law 801 = .ok (.iaload, 1) := by decide +kernel
theorem d_L_law_802 : dec m_L_law 802 = .ok (.aload_n 0, 1) := by decide +kernel
theorem d_L_law_803 : dec m_L_law 803 = .ok (.iload_n 3, 1) := by decide +kernel
theorem d_L_law_804 : dec m_L_law 804 = .ok (.iconst 2, 1) := by decide +kernel
theorem d_L_law_805 : dec m_L_law 805 = .ok (.iadd, 1) := by decide +kernel
theorem d_L_law_806 : dec m_L_law 806 = .ok (.iaload, 1) := by decide +kernel
theorem d_L_law_807 : dec m_L_law 807 = .ok (.invokevirtual 92, 3) := by decide +kernel
theorem d_L_law_810 : dec m_L_law 810 = .ok (.aload_n 2, 1) := by decide +kernel
theorem d_L_law_811 : dec m_L_law 811 = .ok (.aload_n 0, 1) := by decide +kernel
theorem d_L_law_812 : dec m_L_law 812 = .ok (.iload_n 3, 1) := by decide +kernel
theorem d_L_law_813 : dec m_L_law 813 = .ok (.iconst 1, 1) := by decide +kernel
theorem d_L_law_814 : dec m_L_law 814 = .ok (.iadd, 1) := by decide +kernel
theorem d_L_law_815 : dec m_L_law 815 = .ok (.iaload, 1) := by decide +kernel
theorem d_L_law_816 : dec m_L_law 816 = .ok (.aload_n 0, 1) := by decide +kernel
theorem d_L_law_817 : dec m_L_law 817 = .ok (.iload_n 3, 1) := by decide +kernel
theorem d_L_law_818 : dec m_L_law 818 = .ok (.iconst 2, 1) := by decide +kernel
theorem d_L_law_819 : dec m_L_law 819 = .ok (.iadd, 1) := by decide +kernel
theorem d_L_law_820 : dec m_L_law 820 = .ok (.iaload, 1) := by decide +kernel
theorem d_L_law_821 : dec m_L_law 821 = .ok (.invokevirtual 95, 3) := by decide +kernel
theorem d_L_law_824 : dec m_L_law 824 = .ok (.if_icmp .eq 785, 3) := by decide +kernel
theorem d_L_law_827 : dec m_L_law 827 = .ok (.iconst 0, 1) := by decide +kernel
theorem d_L_law_828 : dec m_L_law 828 = .ok (.ireturn, 1) := by decide +kernel
theorem d_L_law_829 : dec m_L_law 829 = .ok (.aload_n 1, 1) := by decide +kernel
theorem d_L_law_830 : dec m_L_law 830 = .ok (.aload_n 0, 1) := by decide +kernel
theorem d_L_law_831 : dec m_L_law 831 = .ok (.iload_n 3, 1) := by decide +kernel
theorem d_L_law_832 : dec m_L_law 832 = .ok (.iconst 1, 1) := by decide +kernel
theorem d_L_law_833 : dec m_L_law 833 = .ok (.iadd, 1) := by decide +kernel
theorem d_L_law_834 : dec m_L_law 834 = .ok (.iaload, 1) := by decide +kernel
theorem d_L_law_835 : dec m_L_law 835 = .ok (.invokevirtual 96, 3) := by decide +kernel
theorem d_L_law_838 : dec m_L_law 838 = .ok (.aload_n 2, 1) := by decide +kernel
theorem d_L_law_839 : dec m_L_law 839 = .ok (.aload_n 0, 1) := by decide +kernel
theorem d_L_law_840 : dec m_L_law 840 = .ok (.iload_n 3, 1) := by decide +kernel
theorem d_L_law_841 : dec m_L_law 841 = .ok (.iconst 1, 1) := by decide +kernel
theorem d_L_law_842 : dec m_L_law 842 = .ok (.iadd, 1) := by decide +kernel
theorem d_L_law_843 : dec m_L_law 843 = .ok (.iaload, 1) := by decide +kernel
theorem d_L_law_844 : dec m_L_law 844 = .ok (.invokevirtual 99, 3) := by decide +kernel
theorem d_L_law_847 : dec m_L_law 847 = .ok (.if_icmp .eq 762, 3) := by decide +kernel
theorem d_L_law_850 : dec m_L_law 850 = .ok (.iconst 0, 1) := by decide +kernel
theorem d_L_law_851 : dec m_L_law 851 = .ok (.ireturn, 1) := by decide +kernel
theorem d_L_law_852 : dec m_L_law 852 = .ok (.aload_n 1, 1) := by decide +kernel
theorem d_L_law_853 : dec m_L_law 853 = .ok (.aload_n 0, 1) := by decide +kernel
theorem d_L_law_854 : dec m_L_law 854 = .ok (.iload_n 3, 1) := by decide +kernel
theorem d_L_law_855 : dec m_L_law 855 = .ok (.iconst 1, 1) := by decide +kernel
theorem d_L_law_856 : dec m_L_law 856 = .ok (.iadd, 1) := by decide +kernel
theorem d_L_law_857 : dec m_L_law 857 = .ok (.iaload, 1) := by decide +kernel
theorem d_L_law_858 : dec m_L_law 858 = .ok (.aload_n 0, 1) := by decide +kernel
theorem d_L_law_859 : dec m_L_law 859 = .ok (.iload_n 3, 1) := by decide +kernel
theorem d_L_law_860 : dec m_L_law 860 = .ok (.iconst 2, 1) := by decide +kernel
theorem d_L_law_861 : dec m_L_law 861 = .ok (.iadd, 1) := by decide +kernel
theorem d_L_law_862 : dec m_L_law 862 = .ok (.iaload, 1) := by decide +kernel
theorem d_L_law_863 : dec m_L_law 863 = .ok (.invokevirtual 100, 3) := by decide +kernel
theorem d_L_law_866 : dec m_L_law 866 = .ok (.aload_n 2, 1) := by decide +kernel
theorem d_L_law_867 : dec m_L_law 867 = .ok (.aload_n 0, 1) := by decide +kernel
theorem d_L_law_868 : dec m_L_law 868 = .ok (.iload_n 3, 1) := by decide +kernel
theorem d_L_law_869 : dec m_L_law 869 = .ok (.iconst 1, 1) := by decide +kernel
theorem d_L_law_870 : dec m_L_law 870 = .ok (.iadd, 1) := by decide +kernel
theorem d_L_law_871 : dec m_L_law 871 = .ok (.iaload, 1) := by decide +kernel
theorem d_L_law_872 : dec m_L_law 872 = .ok (.aload_n 0, 1) := by decide +kernel
theorem d_L_law_873 : dec m_L_law 873 = .ok (.iload_n 3, 1) := by decide +kernel
theorem d_L_law_874 : dec m_L_law 874 = .ok (.iconst 2, 1) := by decide +kernel
theorem d_L_law_875 : dec m_L_law 875 = .ok (.iadd, 1) := by decide +kernel
theorem d_L_law_876 : dec m_L_law 876 = .ok (.iaload, 1) := by decide +kernel
theorem d_L_law_877 : dec m_L_law 877 = .ok (.invokevirtual 103, 3) := by decide +kernel
theorem d_L_law_880 : dec m_L_law 880 = .ok (.if_icmp .eq 729, 3) := by decide +kernel
theorem d_L_law_883 : dec m_L_law 883 = .ok (.iconst 0, 1) := by decide +kernel
theorem d_L_law_884 : dec m_L_law 884 = .ok (.ireturn, 1) := by decide +kernel
theorem d_L_law_885 : dec m_L_law 885 = .ok (.aload_n 1, 1) := by decide +kernel
theorem d_L_law_886 : dec m_L_law 886 = .ok (.aload_n 0, 1) := by decide +kernel
theorem d_L_law_887 : dec m_L_law 887 = .ok (.iload_n 3, 1) := by decide +kernel
theorem d_L_law_888 : dec m_L_law 888 = .ok (.iconst 1, 1) := by decide +kernel
theorem d_L_law_889 : dec m_L_law 889 = .ok (.iadd, 1) := by decide +kernel
theorem d_L_law_890 : dec m_L_law 890 = .ok (.iaload, 1) := by decide +kernel
theorem d_L_law_891 : dec m_L_law 891 = .ok (.invokevirtual 104, 3) := by decide +kernel
theorem d_L_law_894 : dec m_L_law 894 = .ok (.aload_n 2, 1) := by decide +kernel
theorem d_L_law_895 : dec m_L_law 895 = .ok (.aload_n 0, 1) := by decide +kernel
theorem d_L_law_896 : dec m_L_law 896 = .ok (.iload_n 3, 1) := by decide +kernel
theorem d_L_law_897 : dec m_L_law 897 = .ok (.iconst 1, 1) := by decide +kernel
theorem d_L_law_898 : dec m_L_law 898 = .ok (.iadd, 1) := by decide +kernel
theorem d_L_law_899 : dec m_L_law 899 = .ok (.iaload, 1) := by decide +kernel
theorem d_L_law_900 : dec m_L_law 900 = .ok (.invokevirtual 108, 3) := by decide +kernel
theorem d_L_law_903 : dec m_L_law 903 = .ok (.lcmp, 1) := by decide +kernel
theorem d_L_law_904 : dec m_L_law 904 = .ok (.ifCond .eq 705, 3) := by decide +kernel
theorem d_L_law_907 : dec m_L_law 907 = .ok (.iconst 0, 1) := by decide +kernel
theorem d_L_law_908 : dec m_L_law 908 = .ok (.ireturn, 1) := by decide +kernel
theorem d_L_law_909 : dec m_L_law 909 = .ok (.aload_n 1, 1) := by decide +kernel
theorem d_L_law_910 : dec m_L_law 910 = .ok (.aload_n 0, 1) := by decide +kernel
theorem d_L_law_911 : dec m_L_law 911 = .ok (.iload_n 3, 1) := by decide +kernel
theorem d_L_law_912 : dec m_L_law 912 = .ok (.iconst 1, 1) := by decide +kernel
theorem d_L_law_913 : dec m_L_law 913 = .ok (.iadd, 1) := by decide +kernel
theorem d_L_law_914 : dec m_L_law 914 = .ok (.iaload, 1) := by decide +kernel
theorem d_L_law_915 : dec m_L_law 915 = .ok (.aload_n 0, 1) := by decide +kernel
theorem d_L_law_916 : dec m_L_law 916 = .ok (.iload_n 3, 1) := by decide +kernel
theorem d_L_law_917 : dec m_L_law 917 = .ok (.iconst 2, 1) := by decide +kernel
theorem d_L_law_918 : dec m_L_law 918 = .ok (.iadd, 1) := by decide +kernel
theorem d_L_law_919 : dec m_L_law 919 = .ok (.iaload, 1) := by decide +kernel
theorem d_L_law_920 : dec m_L_law 920 = .ok (.aload_n 0, 1) := by decide +kernel
theorem d_L_law_921 : dec m_L_law 921 = .ok (.iload_n 3, 1) := by decide +kernel
theorem d_L_law_922 : dec m_L_law 922 = .ok (.iconst 3, 1) := by decide +kernel
theorem d_L_law_923 : dec m_L_law 923 = .ok (.iadd, 1) := by decide +kernel
theorem d_L_law_924 : dec m_L_law 924 = .ok (.iaload, 1) := by decide +kernel
theorem d_L_law_925 : dec m_L_law 925 = .ok (.invokevirtual 109, 3) := by decide +kernel
theorem d_L_law_928 : dec m_L_law 928 = .ok (.aload_n 2, 1) := by decide +kernel
theorem d_L_law_929 : dec m_L_law 929 = .ok (.aload_n 0, 1) := by decide +kernel
theorem d_L_law_930 : dec m_L_law 930 = .ok (.iload_n 3, 1) := by decide +kernel
theorem d_L_law_931 : dec m_L_law 931 = .ok (.iconst 1, 1) := by decide +kernel
theorem d_L_law_932 : dec m_L_law 932 = .ok (.iadd, 1) := by decide +kernel
theorem d_L_law_933 : dec m_L_law 933 = .ok (.iaload, 1) := by decide +kernel
theorem d_L_law_934 : dec m_L_law 934 = .ok (.aload_n 0, 1) := by decide +kernel
theorem d_L_law_935 : dec m_L_law 935 = .ok (.iload_n 3, 1) := by decide +kernel
theorem d_L_law_936 : dec m_L_law 936 = .ok (.iconst 2, 1) := by decide +kernel
theorem d_L_law_937 : dec m_L_law 937 = .ok (.iadd, 1) := by decide +kernel
theorem d_L_law_938 : dec m_L_law 938 = .ok (.iaload, 1) := by decide +kernel
theorem d_L_law_939 : dec m_L_law 939 = .ok (.aload_n 0, 1) := by decide +kernel
theorem d_L_law_940 : dec m_L_law 940 = .ok (.iload_n 3, 1) := by decide +kernel
theorem d_L_law_941 : dec m_L_law 941 = .ok (.iconst 3, 1) := by decide +kernel
theorem d_L_law_942 : dec m_L_law 942 = .ok (.iadd, 1) := by decide +kernel
theorem d_L_law_943 : dec m_L_law 943 = .ok (.iaload, 1) := by decide +kernel
theorem d_L_law_944 : dec m_L_law 944 = .ok (.invokevirtual 112, 3) := by decide +kernel
theorem d_L_law_947 : dec m_L_law 947 = .ok (.if_icmp .eq 662, 3) := by decide +kernel
theorem d_L_law_950 : dec m_L_law 950 = .ok (.iconst 0, 1) := by decide +kernel
theorem d_L_law_951 : dec m_L_law 951 = .ok (.ireturn, 1) := by decide +kernel
