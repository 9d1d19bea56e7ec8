section RW8
variable {X : XT} {L9 : Nat} {xs : Nat → Int32}
theorem d_W_law_549 : decode mi_W_law.2.1 549 = .ok (.iload 16, 2) := by decide +kernel
theorem d_W_law_551 : decode mi_W_law.2.1 551 = .ok (.aaload, 1) := by decide +kernel
theorem d_W_law_552 : decode mi_W_law.2.1 552 = .ok (.iload 10, 2) := by decide +kernel
theorem d_W_law_554 : decode mi_W_law.2.1 554 = .ok (.iaload, 1) := by decide +kernel
theorem d_W_law_555 : decode mi_W_law.2.1 555 = .ok (.iconst (1), 1) := by decide +kernel
theorem d_W_law_556 : decode mi_W_law.2.1 556 = .ok (.if_icmp .ne (7), 3) := by decide +kernel
theorem d_W_law_559 : decode mi_W_law.2.1 559 = .ok (.iconst (1), 1) := by decide +kernel
theorem d_W_law_560 : decode mi_W_law.2.1 560 = .ok (.goto (4), 3) := by decide +kernel
theorem d_W_law_563 : decode mi_W_law.2.1 563 = .ok (.iconst (0), 1) := by decide +kernel
theorem d_W_law_564 : decode mi_W_law.2.1 564 = .ok (.bastore, 1) := by decide +kernel
theorem d_W_law_565 : decode mi_W_law.2.1 565 = .ok (.iload_n 2, 1) := by decide +kernel
theorem d_W_law_566 : decode mi_W_law.2.1 566 = .ok (.aload_n 1, 1) := by decide +kernel
theorem d_W_law_567 : decode mi_W_law.2.1 567 = .ok (.iload 16, 2) := by decide +kernel
theorem d_W_law_569 : decode mi_W_law.2.1 569 = .ok (.invokestatic 175, 3) := by decide +kernel
theorem d_W_law_572 : decode mi_W_law.2.1 572 = .ok (.ifCond .lt (7), 3) := by decide +kernel
theorem d_W_law_575 : decode mi_W_law.2.1 575 = .ok (.iconst (1), 1) := by decide +kernel
theorem d_W_law_576 : decode mi_W_law.2.1 576 = .ok (.goto (4), 3) := by decide +kernel
theorem d_W_law_579 : decode mi_W_law.2.1 579 = .ok (.iconst (0), 1) := by decide +kernel
theorem d_W_law_580 : decode mi_W_law.2.1 580 = .ok (.aload 15, 2) := by decide +kernel
theorem d_W_law_582 : decode mi_W_law.2.1 582 = .ok (.iload 16, 2) := by decide +kernel
theorem d_W_law_584 : decode mi_W_law.2.1 584 = .ok (.baload, 1) := by decide +kernel
theorem d_W_law_585 : decode mi_W_law.2.1 585 = .ok (.ifCond .eq (16), 3) := by decide +kernel
theorem d_W_law_588 : decode mi_W_law.2.1 588 = .ok (.aload_n 1, 1) := by decide +kernel
theorem d_W_law_589 : decode mi_W_law.2.1 589 = .ok (.invokevirtual 177, 3) := by decide +kernel
theorem d_W_law_592 : decode mi_W_law.2.1 592 = .ok (.bipush (64), 2) := by decide +kernel
theorem d_W_law_594 : decode mi_W_law.2.1 594 = .ok (.if_icmp .gt (7), 3) := by decide +kernel
theorem d_W_law_597 : decode mi_W_law.2.1 597 = .ok (.iconst (1), 1) := by decide +kernel
theorem d_W_law_598 : decode mi_W_law.2.1 598 = .ok (.goto (4), 3) := by decide +kernel
theorem d_W_law_601 : decode mi_W_law.2.1 601 = .ok (.iconst (0), 1) := by decide +kernel
theorem d_W_law_602 : decode mi_W_law.2.1 602 = .ok (.if_icmp .eq (12), 3) := by decide +kernel
theorem d_W_law_605 : decode mi_W_law.2.1 605 = .ok (.aload_n 1, 1) := by decide +kernel
theorem d_W_law_606 : decode mi_W_law.2.1 606 = .ok (.invokevirtual 177, 3) := by decide +kernel
theorem d_W_law_609 : decode mi_W_law.2.1 609 = .ok (.bipush (64), 2) := by decide +kernel
theorem d_W_law_611 : decode mi_W_law.2.1 611 = .ok (.if_icmp .ne (7), 3) := by decide +kernel
theorem d_W_law_614 : decode mi_W_law.2.1 614 = .ok (.iconst (1), 1) := by decide +kernel
theorem d_W_law_615 : decode mi_W_law.2.1 615 = .ok (.goto (4), 3) := by decide +kernel
theorem d_W_law_618 : decode mi_W_law.2.1 618 = .ok (.iconst (0), 1) := by decide +kernel
theorem d_W_law_619 : decode mi_W_law.2.1 619 = .ok (.iand, 1) := by decide +kernel
theorem d_W_law_620 : decode mi_W_law.2.1 620 = .ok (.istore_n 2, 1) := by decide +kernel
theorem d_W_law_621 : decode mi_W_law.2.1 621 = .ok (.iinc 16 (1), 3) := by decide +kernel
theorem d_W_law_624 : decode mi_W_law.2.1 624 = .ok (.goto (-93), 3) := by decide +kernel
theorem d_W_law_627 : decode mi_W_law.2.1 627 = .ok (.iconst (0), 1) := by decide +kernel
theorem d_W_law_628 : decode mi_W_law.2.1 628 = .ok (.istore 16, 2) := by decide +kernel
theorem d_W_law_630 : decode mi_W_law.2.1 630 = .ok (.iload 16, 2) := by decide +kernel
theorem d_W_law_632 : decode mi_W_law.2.1 632 = .ok (.bipush (8), 2) := by decide +kernel
theorem d_W_law_634 : decode mi_W_law.2.1 634 = .ok (.if_icmp .ge (264), 3) := by decide +kernel
theorem d_W_law_637 : decode mi_W_law.2.1 637 = .ok (.aload_n 0, 1) := by decide +kernel
theorem d_W_law_638 : decode mi_W_law.2.1 638 = .ok (.sipush (350), 3) := by decide +kernel
theorem d_W_law_641 : decode mi_W_law.2.1 641 = .ok (.iload 16, 2) := by decide +kernel
theorem d_W_law_643 : decode mi_W_law.2.1 643 = .ok (.iadd, 1) := by decide +kernel
theorem d_W_law_644 : decode mi_W_law.2.1 644 = .ok (.aload 5, 2) := by decide +kernel
theorem d_W_law_646 : decode mi_W_law.2.1 646 = .ok (.arraylength, 1) := by decide +kernel
theorem d_W_law_647 : decode mi_W_law.2.1 647 = .ok (.invokestatic 104, 3) := by decide +kernel
theorem d_W_law_650 : decode mi_W_law.2.1 650 = .ok (.istore 17, 2) := by decide +kernel
theorem d_W_law_652 : decode mi_W_law.2.1 652 = .ok (.aload_n 0, 1) := by decide +kernel
theorem d_W_law_653 : decode mi_W_law.2.1 653 = .ok (.sipush (360), 3) := by decide +kernel
theorem d_W_law_656 : decode mi_W_law.2.1 656 = .ok (.iload 16, 2) := by decide +kernel
theorem d_W_law_658 : decode mi_W_law.2.1 658 = .ok (.iadd, 1) := by decide +kernel
theorem d_W_law_659 : decode mi_W_law.2.1 659 = .ok (.aload 5, 2) := by decide +kernel
theorem d_W_law_661 : decode mi_W_law.2.1 661 = .ok (.arraylength, 1) := by decide +kernel
theorem d_W_law_662 : decode mi_W_law.2.1 662 = .ok (.invokestatic 104, 3) := by decide +kernel
theorem d_W_law_665 : decode mi_W_law.2.1 665 = .ok (.istore 18, 2) := by decide +kernel
theorem d_W_law_667 : decode mi_W_law.2.1 667 = .ok (.aload_n 0, 1) := by decide +kernel
theorem d_W_law_668 : decode mi_W_law.2.1 668 = .ok (.sipush (370), 3) := by decide +kernel
theorem d_W_law_671 : decode mi_W_law.2.1 671 = .ok (.iload 16, 2) := by decide +kernel
theorem d_W_law_673 : decode mi_W_law.2.1 673 = .ok (.iadd, 1) := by decide +kernel
theorem d_W_law_674 : decode mi_W_law.2.1 674 = .ok (.iconst (2), 1) := by decide +kernel
theorem d_W_law_675 : decode mi_W_law.2.1 675 = .ok (.invokestatic 104, 3) := by decide +kernel
theorem d_W_law_678 : decode mi_W_law.2.1 678 = .ok (.istore 19, 2) := by decide +kernel
theorem d_W_law_680 : decode mi_W_law.2.1 680 = .ok (.aload 5, 2) := by decide +kernel
theorem d_W_law_682 : decode mi_W_law.2.1 682 = .ok (.iload 6, 2) := by decide +kernel
theorem d_W_law_684 : decode mi_W_law.2.1 684 = .ok (.iload 17, 2) := by decide +kernel
theorem d_W_law_686 : decode mi_W_law.2.1 686 = .ok (.iload 18, 2) := by decide +kernel
theorem d_W_law_688 : decode mi_W_law.2.1 688 = .ok (.iload 19, 2) := by decide +kernel
theorem d_W_law_690 : decode mi_W_law.2.1 690 = .ok (.iload 14, 2) := by decide +kernel
theorem d_W_law_692 : decode mi_W_law.2.1 692 = .ok (.ifCond .eq (8), 3) := by decide +kernel
theorem d_W_law_695 : decode mi_W_law.2.1 695 = .ok (.iload 10, 2) := by decide +kernel
theorem d_W_law_697 : decode mi_W_law.2.1 697 = .ok (.goto (4), 3) := by decide +kernel
theorem d_W_law_700 : decode mi_W_law.2.1 700 = .ok (.iconst (-1), 1) := by decide +kernel
theorem d_W_law_701 : decode mi_W_law.2.1 701 = .ok (.iconst (0), 1) := by decide +kernel
theorem d_W_law_702 : decode mi_W_law.2.1 702 = .ok (.iconst (0), 1) := by decide +kernel
theorem d_W_law_703 : decode mi_W_law.2.1 703 = .ok (.invokestatic 140, 3) := by decide +kernel
theorem d_W_law_706 : decode mi_W_law.2.1 706 = .ok (.istore 20, 2) := by decide +kernel
theorem d_W_law_708 : decode mi_W_law.2.1 708 = .ok (.iload_n 2, 1) := by decide +kernel
theorem d_W_law_709 : decode mi_W_law.2.1 709 = .ok (.aload_n 1, 1) := by decide +kernel
theorem d_W_law_710 : decode mi_W_law.2.1 710 = .ok (.iload 17, 2) := by decide +kernel
theorem d_W_law_712 : decode mi_W_law.2.1 712 = .ok (.iload 18, 2) := by decide +kernel
theorem d_W_law_714 : decode mi_W_law.2.1 714 = .ok (.iload 19, 2) := by decide +kernel
theorem d_W_law_716 : decode mi_W_law.2.1 716 = .ok (.iconst (1), 1) := by decide +kernel
theorem d_W_law_717 : decode mi_W_law.2.1 717 = .ok (.if_icmp .ne (7), 3) := by decide +kernel
theorem d_W_law_720 : decode mi_W_law.2.1 720 = .ok (.iconst (1), 1) := by decide +kernel
theorem d_W_law_721 : decode mi_W_law.2.1 721 = .ok (.goto (4), 3) := by decide +kernel
theorem d_W_law_724 : decode mi_W_law.2.1 724 = .ok (.iconst (0), 1) := by decide +kernel
theorem d_W_law_725 : decode mi_W_law.2.1 725 = .ok (.sipush (20000), 3) := by decide +kernel
theorem d_W_law_728 : decode mi_W_law.2.1 728 = .ok (.invokestatic 180, 3) := by decide +kernel
theorem d_W_law_731 : decode mi_W_law.2.1 731 = .ok (.iload 20, 2) := by decide +kernel
theorem d_W_law_733 : decode mi_W_law.2.1 733 = .ok (.ifCond .ge (8), 3) := by decide +kernel
theorem d_W_law_736 : decode mi_W_law.2.1 736 = .ok (.bipush (100), 2) := by decide +kernel
theorem d_W_law_738 : decode mi_W_law.2.1 738 = .ok (.goto (5), 3) := by decide +kernel
theorem d_W_law_741 : decode mi_W_law.2.1 741 = .ok (.bipush (101), 2) := by decide +kernel
theorem d_W_law_743 : decode mi_W_law.2.1 743 = .ok (.if_icmp .ne (78), 3) := by decide +kernel
theorem d_W_law_746 : decode mi_W_law.2.1 746 = .ok (.aload_n 1, 1) := by decide +kernel
theorem d_W_law_747 : decode mi_W_law.2.1 747 = .ok (.iload 17, 2) := by decide +kernel
theorem d_W_law_749 : decode mi_W_law.2.1 749 = .ok (.iload 18, 2) := by decide +kernel
theorem d_W_law_751 : decode mi_W_law.2.1 751 = .ok (.iload 19, 2) := by decide +kernel
theorem d_W_law_753 : decode mi_W_law.2.1 753 = .ok (.iconst (1), 1) := by decide +kernel
theorem d_W_law_754 : decode mi_W_law.2.1 754 = .ok (.if_icmp .ne (7), 3) := by decide +kernel
theorem d_W_law_757 : decode mi_W_law.2.1 757 = .ok (.iconst (1), 1) := by decide +kernel
theorem d_W_law_758 : decode mi_W_law.2.1 758 = .ok (.goto (4), 3) := by decide +kernel
theorem d_W_law_761 : decode mi_W_law.2.1 761 = .ok (.iconst (0), 1) := by decide +kernel
theorem d_W_law_762 : decode mi_W_law.2.1 762 = .ok (.invokestatic 183, 3) := by decide +kernel
theorem d_W_law_765 : decode mi_W_law.2.1 765 = .ok (.iload 20, 2) := by decide +kernel
theorem d_W_law_767 : decode mi_W_law.2.1 767 = .ok (.ifCond .ge (8), 3) := by decide +kernel
theorem d_W_law_770 : decode mi_W_law.2.1 770 = .ok (.ldc 27, 2) := by decide +kernel
theorem d_W_law_772 : decode mi_W_law.2.1 772 = .ok (.goto (5), 3) := by decide +kernel
theorem d_W_law_775 : decode mi_W_law.2.1 775 = .ok (.iload 20, 2) := by decide +kernel
theorem d_W_law_777 : decode mi_W_law.2.1 777 = .ok (.if_icmp .ne (44), 3) := by decide +kernel
theorem d_W_law_780 : decode mi_W_law.2.1 780 = .ok (.aload_n 1, 1) := by decide +kernel
theorem d_W_law_781 : decode mi_W_law.2.1 781 = .ok (.iload 17, 2) := by decide +kernel
theorem d_W_law_783 : decode mi_W_law.2.1 783 = .ok (.iload 18, 2) := by decide +kernel
theorem d_W_law_785 : decode mi_W_law.2.1 785 = .ok (.iload 19, 2) := by decide +kernel
theorem d_W_law_787 : decode mi_W_law.2.1 787 = .ok (.iconst (1), 1) := by decide +kernel
theorem d_W_law_788 : decode mi_W_law.2.1 788 = .ok (.if_icmp .ne (7), 3) := by decide +kernel
theorem d_W_law_791 : decode mi_W_law.2.1 791 = .ok (.iconst (1), 1) := by decide +kernel
theorem d_W_law_792 : decode mi_W_law.2.1 792 = .ok (.goto (4), 3) := by decide +kernel
theorem d_W_law_795 : decode mi_W_law.2.1 795 = .ok (.iconst (0), 1) := by decide +kernel
theorem d_W_law_796 : decode mi_W_law.2.1 796 = .ok (.invokestatic 186, 3) := by decide +kernel
theorem d_W_law_799 : decode mi_W_law.2.1 799 = .ok (.iload 20, 2) := by decide +kernel
theorem d_W_law_801 : decode mi_W_law.2.1 801 = .ok (.ifCond .ge (11), 3) := by decide +kernel
theorem d_W_law_804 : decode mi_W_law.2.1 804 = .ok (.iload 20, 2) := by decide +kernel
theorem d_W_law_806 : decode mi_W_law.2.1 806 = .ok (.ldc 139, 2) := by decide +kernel
theorem d_W_law_808 : decode mi_W_law.2.1 808 = .ok (.iadd, 1) := by decide +kernel
theorem d_W_law_809 : decode mi_W_law.2.1 809 = .ok (.goto (5), 3) := by decide +kernel
theorem d_W_law_812 : decode mi_W_law.2.1 812 = .ok (.ldc 27, 2) := by decide +kernel
theorem d_W_law_814 : decode mi_W_law.2.1 814 = .ok (.if_icmp .ne (7), 3) := by decide +kernel
theorem d_W_law_817 : decode mi_W_law.2.1 817 = .ok (.iconst (1), 1) := by decide +kernel
theorem d_W_law_818 : decode mi_W_law.2.1 818 = .ok (.goto (4), 3) := by decide +kernel
theorem d_W_law_821 : decode mi_W_law.2.1 821 = .ok (.iconst (0), 1) := by decide +kernel
theorem d_W_law_822 : decode mi_W_law.2.1 822 = .ok (.iand, 1) := by decide +kernel
theorem d_W_law_823 : decode mi_W_law.2.1 823 = .ok (.istore_n 2, 1) := by decide +kernel
theorem d_W_law_824 : decode mi_W_law.2.1 824 = .ok (.iload_n 2, 1) := by decide +kernel
theorem d_W_law_825 : decode mi_W_law.2.1 825 = .ok (.iload 20, 2) := by decide +kernel
theorem d_W_law_827 : decode mi_W_law.2.1 827 = .ok (.iconst (2), 1) := by decide +kernel
theorem d_W_law_828 : decode mi_W_law.2.1 828 = .ok (.if_icmp .lt (57), 3) := by decide +kernel
theorem d_W_law_831 : decode mi_W_law.2.1 831 = .ok (.aload_n 1, 1) := by decide +kernel
theorem d_W_law_832 : decode mi_W_law.2.1 832 = .ok (.iload 17, 2) := by decide +kernel
theorem d_W_law_834 : decode mi_W_law.2.1 834 = .ok (.iload 18, 2) := by decide +kernel
theorem d_W_law_836 : decode mi_W_law.2.1 836 = .ok (.iload 19, 2) := by decide +kernel
theorem d_W_law_838 : decode mi_W_law.2.1 838 = .ok (.iconst (1), 1) := by decide +kernel
theorem d_W_law_839 : decode mi_W_law.2.1 839 = .ok (.if_icmp .ne (7), 3) := by decide +kernel
theorem d_W_law_842 : decode mi_W_law.2.1 842 = .ok (.iconst (1), 1) := by decide +kernel
theorem d_W_law_843 : decode mi_W_law.2.1 843 = .ok (.goto (4), 3) := by decide +kernel
theorem d_W_law_846 : decode mi_W_law.2.1 846 = .ok (.iconst (0), 1) := by decide +kernel
theorem d_W_law_847 : decode mi_W_law.2.1 847 = .ok (.iload 20, 2) := by decide +kernel
theorem d_W_law_849 : decode mi_W_law.2.1 849 = .ok (.iconst (1), 1) := by decide +kernel
theorem d_W_law_850 : decode mi_W_law.2.1 850 = .ok (.isub, 1) := by decide +kernel
theorem d_W_law_851 : decode mi_W_law.2.1 851 = .ok (.invokestatic 180, 3) := by decide +kernel
theorem d_W_law_854 : decode mi_W_law.2.1 854 = .ok (.bipush (117), 2) := by decide +kernel
theorem d_W_law_856 : decode mi_W_law.2.1 856 = .ok (.if_icmp .ne (33), 3) := by decide +kernel
theorem d_W_law_859 : decode mi_W_law.2.1 859 = .ok (.aload_n 1, 1) := by decide +kernel
theorem d_W_law_860 : decode mi_W_law.2.1 860 = .ok (.iload 17, 2) := by decide +kernel
theorem d_W_law_862 : decode mi_W_law.2.1 862 = .ok (.iload 18, 2) := by decide +kernel
theorem d_W_law_864 : decode mi_W_law.2.1 864 = .ok (.iload 19, 2) := by decide +kernel
theorem d_W_law_866 : decode mi_W_law.2.1 866 = .ok (.iconst (1), 1) := by decide +kernel
theorem d_W_law_867 : decode mi_W_law.2.1 867 = .ok (.if_icmp .ne (7), 3) := by decide +kernel
theorem d_W_law_870 : decode mi_W_law.2.1 870 = .ok (.iconst (1), 1) := by decide +kernel
theorem d_W_law_871 : decode mi_W_law.2.1 871 = .ok (.goto (4), 3) := by decide +kernel
theorem d_W_law_874 : decode mi_W_law.2.1 874 = .ok (.iconst (0), 1) := by decide +kernel
theorem d_W_law_875 : decode mi_W_law.2.1 875 = .ok (.iload 20, 2) := by decide +kernel
theorem d_W_law_877 : decode mi_W_law.2.1 877 = .ok (.invokestatic 180, 3) := by decide +kernel
theorem d_W_law_880 : decode mi_W_law.2.1 880 = .ok (.bipush (101), 2) := by decide +kernel
theorem d_W_law_882 : decode mi_W_law.2.1 882 = .ok (.if_icmp .ne (7), 3) := by decide +kernel
theorem d_W_law_885 : decode mi_W_law.2.1 885 = .ok (.iconst (1), 1) := by decide +kernel
theorem d_W_law_886 : decode mi_W_law.2.1 886 = .ok (.goto (4), 3) := by decide +kernel
theorem d_W_law_889 : decode mi_W_law.2.1 889 = .ok (.iconst (0), 1) := by decide +kernel
theorem d_W_law_890 : decode mi_W_law.2.1 890 = .ok (.iand, 1) := by decide +kernel
theorem d_W_law_891 : decode mi_W_law.2.1 891 = .ok (.istore_n 2, 1) := by decide +kernel
theorem d_W_law_892 : decode mi_W_law.2.1 892 = .ok (.iinc 16 (1), 3) := by decide +kernel
theorem d_W_law_895 : decode mi_W_law.2.1 895 = .ok (.goto (-265), 3) := by decide +kernel
theorem d_W_law_898 : decode mi_W_law.2.1 898 = .ok (.iconst (1), 1) := by decide +kernel
theorem d_W_law_899 : decode mi_W_law.2.1 899 = .ok (.iconst (2), 1) := by decide +kernel
theorem d_W_law_900 : decode mi_W_law.2.1 900 = .ok (.iload 4, 2) := by decide +kernel
theorem d_W_law_902 : decode mi_W_law.2.1 902 = .ok (.imul, 1) := by decide +kernel
theorem d_W_law_903 : decode mi_W_law.2.1 903 = .ok (.ishl, 1) := by decide +kernel
theorem d_W_law_904 : decode mi_W_law.2.1 904 = .ok (.istore 16, 2) := by decide +kernel
theorem d_W_law_906 : decode mi_W_law.2.1 906 = .ok (.iload 9, 2) := by decide +kernel
theorem d_W_law_908 : decode mi_W_law.2.1 908 = .ok (.newarray .int, 2) := by decide +kernel
theorem d_W_law_910 : decode mi_W_law.2.1 910 = .ok (.astore 17, 2) := by decide +kernel
theorem d_W_law_912 : decode mi_W_law.2.1 912 = .ok (.iload 9, 2) := by decide +kernel
theorem d_W_law_914 : decode mi_W_law.2.1 914 = .ok (.newarray .boolean, 2) := by decide +kernel
theorem d_W_law_916 : decode mi_W_law.2.1 916 = .ok (.astore 18, 2) := by decide +kernel
theorem d_W_law_918 : decode mi_W_law.2.1 918 = .ok (.iconst (0), 1) := by decide +kernel
theorem d_W_law_919 : decode mi_W_law.2.1 919 = .ok (.istore 19, 2) := by decide +kernel
theorem d_W_law_921 : decode mi_W_law.2.1 921 = .ok (.iload 19, 2) := by decide +kernel
theorem d_W_law_923 : decode mi_W_law.2.1 923 = .ok (.iload 9, 2) := by decide +kernel
theorem d_W_law_925 : decode mi_W_law.2.1 925 = .ok (.if_icmp .ge (110), 3) := by decide +kernel
theorem d_W_law_928 : decode mi_W_law.2.1 928 = .ok (.iload_n 3, 1) := by decide +kernel
theorem d_W_law_929 : decode mi_W_law.2.1 929 = .ok (.istore 20, 2) := by decide +kernel
theorem d_W_law_931 : decode mi_W_law.2.1 931 = .ok (.iload 20, 2) := by decide +kernel
theorem d_W_law_933 : decode mi_W_law.2.1 933 = .ok (.iload 6, 2) := by decide +kernel
theorem d_W_law_935 : decode mi_W_law.2.1 935 = .ok (.if_icmp .ge (33), 3) := by decide +kernel
theorem d_W_law_938 : decode mi_W_law.2.1 938 = .ok (.aload 17, 2) := by decide +kernel
theorem d_W_law_940 : decode mi_W_law.2.1 940 = .ok (.iload 19, 2) := by decide +kernel
theorem d_W_law_942 : decode mi_W_law.2.1 942 = .ok (.dup2, 1) := by decide +kernel
theorem d_W_law_943 : decode mi_W_law.2.1 943 = .ok (.iaload, 1) := by decide +kernel
theorem d_W_law_944 : decode mi_W_law.2.1 944 = .ok (.aload 12, 2) := by decide +kernel
theorem d_W_law_946 : decode mi_W_law.2.1 946 = .ok (.iload 19, 2) := by decide +kernel
theorem d_W_law_948 : decode mi_W_law.2.1 948 = .ok (.aaload, 1) := by decide +kernel
theorem d_W_law_949 : decode mi_W_law.2.1 949 = .ok (.aload 7, 2) := by decide +kernel
theorem d_W_law_951 : decode mi_W_law.2.1 951 = .ok (.iload 20, 2) := by decide +kernel
theorem d_W_law_953 : decode mi_W_law.2.1 953 = .ok (.iaload, 1) := by decide +kernel
theorem d_W_law_954 : decode mi_W_law.2.1 954 = .ok (.iaload, 1) := by decide +kernel
theorem d_W_law_955 : decode mi_W_law.2.1 955 = .ok (.iload 20, 2) := by decide +kernel
theorem d_W_law_957 : decode mi_W_law.2.1 957 = .ok (.iload_n 3, 1) := by decide +kernel
theorem d_W_law_958 : decode mi_W_law.2.1 958 = .ok (.isub, 1) := by decide +kernel
theorem d_W_law_959 : decode mi_W_law.2.1 959 = .ok (.ishl, 1) := by decide +kernel
theorem d_W_law_960 : decode mi_W_law.2.1 960 = .ok (.ior, 1) := by decide +kernel
theorem d_W_law_961 : decode mi_W_law.2.1 961 = .ok (.iastore, 1) := by decide +kernel
theorem d_W_law_962 : decode mi_W_law.2.1 962 = .ok (.iinc 20 (1), 3) := by decide +kernel
theorem d_W_law_965 : decode mi_W_law.2.1 965 = .ok (.goto (-34), 3) := by decide +kernel
theorem d_W_law_968 : decode mi_W_law.2.1 968 = .ok (.iconst (0), 1) := by decide +kernel
theorem d_W_law_969 : decode mi_W_law.2.1 969 = .ok (.istore 20, 2) := by decide +kernel
theorem d_W_law_971 : decode mi_W_law.2.1 971 = .ok (.iload 20, 2) := by decide +kernel
theorem d_W_law_973 : decode mi_W_law.2.1 973 = .ok (.aload 8, 2) := by decide +kernel
theorem d_W_law_975 : decode mi_W_law.2.1 975 = .ok (.iconst (0), 1) := by decide +kernel
theorem d_W_law_976 : decode mi_W_law.2.1 976 = .ok (.aaload, 1) := by decide +kernel
theorem d_W_law_977 : decode mi_W_law.2.1 977 = .ok (.arraylength, 1) := by decide +kernel
theorem d_W_law_978 : decode mi_W_law.2.1 978 = .ok (.if_icmp .ge (51), 3) := by decide +kernel
theorem d_W_law_981 : decode mi_W_law.2.1 981 = .ok (.aload 18, 2) := by decide +kernel
theorem d_W_law_983 : decode mi_W_law.2.1 983 = .ok (.iload 19, 2) := by decide +kernel
theorem d_W_law_985 : decode mi_W_law.2.1 985 = .ok (.dup2, 1) := by decide +kernel
theorem d_W_law_986 : decode mi_W_law.2.1 986 = .ok (.baload, 1) := by decide +kernel
theorem d_W_law_987 : decode mi_W_law.2.1 987 = .ok (.aload 12, 2) := by decide +kernel
theorem d_W_law_989 : decode mi_W_law.2.1 989 = .ok (.iload 19, 2) := by decide +kernel
theorem d_W_law_991 : decode mi_W_law.2.1 991 = .ok (.aaload, 1) := by decide +kernel
theorem d_W_law_992 : decode mi_W_law.2.1 992 = .ok (.aload 8, 2) := by decide +kernel
theorem d_W_law_994 : decode mi_W_law.2.1 994 = .ok (.iconst (0), 1) := by decide +kernel
theorem d_W_law_995 : decode mi_W_law.2.1 995 = .ok (.aaload, 1) := by decide +kernel
theorem d_W_law_996 : decode mi_W_law.2.1 996 = .ok (.iload 20, 2) := by decide +kernel
theorem d_W_law_998 : decode mi_W_law.2.1 998 = .ok (.iaload, 1) := by decide +kernel
theorem d_W_law_999 : decode mi_W_law.2.1 999 = .ok (.iaload, 1) := by decide +kernel
theorem d_W_law_1000 : decode mi_W_law.2.1 1000 = .ok (.aload 12, 2) := by decide +kernel
theorem d_W_law_1002 : decode mi_W_law.2.1 1002 = .ok (.iload 19, 2) := by decide +kernel
theorem d_W_law_1004 : decode mi_W_law.2.1 1004 = .ok (.aaload, 1) := by decide +kernel
theorem d_W_law_1005 : decode mi_W_law.2.1 1005 = .ok (.aload 8, 2) := by decide +kernel
theorem d_W_law_1007 : decode mi_W_law.2.1 1007 = .ok (.iconst (1), 1) := by decide +kernel
theorem d_W_law_1008 : decode mi_W_law.2.1 1008 = .ok (.aaload, 1) := by decide +kernel
theorem d_W_law_1009 : decode mi_W_law.2.1 1009 = .ok (.iload 20, 2) := by decide +kernel
theorem d_W_law_1011 : decode mi_W_law.2.1 1011 = .ok (.iaload, 1) := by decide +kernel
theorem d_W_law_1012 : decode mi_W_law.2.1 1012 = .ok (.iaload, 1) := by decide +kernel
theorem d_W_law_1013 : decode mi_W_law.2.1 1013 = .ok (.if_icmp .eq (7), 3) := by decide +kernel
theorem d_W_law_1016 : decode mi_W_law.2.1 1016 = .ok (.iconst (1), 1) := by decide +kernel
theorem d_W_law_1017 : decode mi_W_law.2.1 1017 = .ok (.goto (4), 3) := by decide +kernel
theorem d_W_law_1020 : decode mi_W_law.2.1 1020 = .ok (.iconst (0), 1) := by decide +kernel
theorem d_W_law_1021 : decode mi_W_law.2.1 1021 = .ok (.ior, 1) := by decide +kernel
theorem d_W_law_1022 : decode mi_W_law.2.1 1022 = .ok (.bastore, 1) := by decide +kernel
theorem d_W_law_1023 : decode mi_W_law.2.1 1023 = .ok (.iinc 20 (1), 3) := by decide +kernel
theorem d_W_law_1026 : decode mi_W_law.2.1 1026 = .ok (.goto (-55), 3) := by decide +kernel
theorem d_W_law_1029 : decode mi_W_law.2.1 1029 = .ok (.iinc 19 (1), 3) := by decide +kernel
theorem d_W_law_1032 : decode mi_W_law.2.1 1032 = .ok (.goto (-111), 3) := by decide +kernel
theorem d_W_law_1035 : decode mi_W_law.2.1 1035 = .ok (.iconst (0), 1) := by decide +kernel
theorem d_W_law_1036 : decode mi_W_law.2.1 1036 = .ok (.istore 19, 2) := by decide +kernel
theorem d_W_law_1038 : decode mi_W_law.2.1 1038 = .ok (.iload_n 3, 1) := by decide +kernel
theorem d_W_law_1039 : decode mi_W_law.2.1 1039 = .ok (.istore 20, 2) := by decide +kernel
theorem d_W_law_1041 : decode mi_W_law.2.1 1041 = .ok (.iload 20, 2) := by decide +kernel
theorem d_W_law_1043 : decode mi_W_law.2.1 1043 = .ok (.iload 6, 2) := by decide +kernel
theorem d_W_law_1045 : decode mi_W_law.2.1 1045 = .ok (.if_icmp .ge (26), 3) := by decide +kernel
theorem d_W_law_1048 : decode mi_W_law.2.1 1048 = .ok (.iload 19, 2) := by decide +kernel
theorem d_W_law_1050 : decode mi_W_law.2.1 1050 = .ok (.aload 5, 2) := by decide +kernel
theorem d_W_law_1052 : decode mi_W_law.2.1 1052 = .ok (.iload 20, 2) := by decide +kernel
theorem d_W_law_1054 : decode mi_W_law.2.1 1054 = .ok (.aaload, 1) := by decide +kernel
theorem d_W_law_1055 : decode mi_W_law.2.1 1055 = .ok (.iconst (2), 1) := by decide +kernel
theorem d_W_law_1056 : decode mi_W_law.2.1 1056 = .ok (.iaload, 1) := by decide +kernel
theorem d_W_law_1057 : decode mi_W_law.2.1 1057 = .ok (.iload 20, 2) := by decide +kernel
theorem d_W_law_1059 : decode mi_W_law.2.1 1059 = .ok (.iload_n 3, 1) := by decide +kernel
theorem d_W_law_1060 : decode mi_W_law.2.1 1060 = .ok (.isub, 1) := by decide +kernel
theorem d_W_law_1061 : decode mi_W_law.2.1 1061 = .ok (.ishl, 1) := by decide +kernel
theorem d_W_law_1062 : decode mi_W_law.2.1 1062 = .ok (.ior, 1) := by decide +kernel
theorem d_W_law_1063 : decode mi_W_law.2.1 1063 = .ok (.istore 19, 2) := by decide +kernel
theorem d_W_law_1065 : decode mi_W_law.2.1 1065 = .ok (.iinc 20 (1), 3) := by decide +kernel
theorem d_W_law_1068 : decode mi_W_law.2.1 1068 = .ok (.goto (-27), 3) := by decide +kernel
theorem d_W_law_1071 : decode mi_W_law.2.1 1071 = .ok (.iload 16, 2) := by decide +kernel
theorem d_W_law_1073 : decode mi_W_law.2.1 1073 = .ok (.iconst (1), 1) := by decide +kernel
theorem d_W_law_1074 : decode mi_W_law.2.1 1074 = .ok (.iadd, 1) := by decide +kernel
theorem d_W_law_1075 : decode mi_W_law.2.1 1075 = .ok (.newarray .int, 2) := by decide +kernel
theorem d_W_law_1077 : decode mi_W_law.2.1 1077 = .ok (.astore 20, 2) := by decide +kernel
theorem d_W_law_1079 : decode mi_W_law.2.1 1079 = .ok (.iload 16, 2) := by decide +kernel
theorem d_W_law_1081 : decode mi_W_law.2.1 1081 = .ok (.newarray .int, 2) := by decide +kernel
theorem d_W_law_1083 : decode mi_W_law.2.1 1083 = .ok (.astore 21, 2) := by decide +kernel
theorem d_W_law_1085 : decode mi_W_law.2.1 1085 = .ok (.iload 16, 2) := by decide +kernel
theorem d_W_law_1087 : decode mi_W_law.2.1 1087 = .ok (.newarray .int, 2) := by decide +kernel
theorem d_W_law_1089 : decode mi_W_law.2.1 1089 = .ok (.astore 22, 2) := by decide +kernel
theorem d_W_law_1091 : decode mi_W_law.2.1 1091 = .ok (.iload 16, 2) := by decide +kernel
theorem d_W_law_1093 : decode mi_W_law.2.1 1093 = .ok (.newarray .int, 2) := by decide +kernel
theorem d_W_law_1095 : decode mi_W_law.2.1 1095 = .ok (.astore 23, 2) := by decide +kernel
theorem d_W_law_1097 : decode mi_W_law.2.1 1097 = .ok (.iconst (0), 1) := by decide +kernel
theorem d_W_law_1098 : decode mi_W_law.2.1 1098 = .ok (.istore 24, 2) := by decide +kernel
theorem d_W_law_1100 : decode mi_W_law.2.1 1100 = .ok (.iload 24, 2) := by decide +kernel
theorem d_W_law_1102 : decode mi_W_law.2.1 1102 = .ok (.iload 16, 2) := by decide +kernel
theorem d_W_law_1104 : decode mi_W_law.2.1 1104 = .ok (.if_icmp .ge (15), 3) := by decide +kernel
end RW8
