theorem dL_598 : decode code 598 = .ok (.iload_n 3, 1) := by decide +kernel
theorem dL_599 : decode code 599 = .ok (.iconst 1, 1) := by decide +kernel
theorem dL_600 : decode code 600 = .ok (.iadd, 1) := by decide +kernel
theorem dL_601 : decode code 601 = .ok (.iaload, 1) := by decide +kernel
theorem dL_602 : decode code 602 = .ok (.aload_n 0, 1) := by decide +kernel
theorem dL_603 : decode code 603 = .ok (.iload_n 3, 1) := by decide +kernel
theorem dL_604 : decode code 604 = .ok (.iconst 2, 1) := by decide +kernel
theorem dL_605 : decode code 605 = .ok (.iadd, 1) := by decide +kernel
theorem dL_606 : decode code 606 = .ok (.iaload, 1) := by decide +kernel
theorem dL_607 : decode code 607 = .ok (.invokevirtual 67, 3) := by decide +kernel
theorem dL_610 : decode code 610 = .ok (.if_icmp .eq 882, 3) := by decide +kernel
theorem dL_613 : decode code 613 = .ok (.iconst 0, 1) := by decide +kernel
theorem dL_614 : decode code 614 = .ok (.ireturn, 1) := by decide +kernel
theorem dL_615 : decode code 615 = .ok (.aload_n 1, 1) := by decide +kernel
theorem dL_616 : decode code 616 = .ok (.aload_n 0, 1) := by decide +kernel
theorem dL_617 : decode code 617 = .ok (.iload_n 3, 1) := by decide +kernel
theorem dL_618 : decode code 618 = .ok (.iconst 1, 1) := by decide +kernel
theorem dL_619 : decode code 619 = .ok (.iadd, 1) := by decide +kernel
theorem dL_620 : decode code 620 = .ok (.iaload, 1) := by decide +kernel
theorem dL_621 : decode code 621 = .ok (.invokevirtual 68, 3) := by decide +kernel
theorem dL_624 : decode code 624 = .ok (.aload_n 2, 1) := by decide +kernel
theorem dL_625 : decode code 625 = .ok (.aload_n 0, 1) := by decide +kernel
theorem dL_626 : decode code 626 = .ok (.iload_n 3, 1) := by decide +kernel
theorem dL_627 : decode code 627 = .ok (.iconst 1, 1) := by decide +kernel
theorem dL_628 : decode code 628 = .ok (.iadd, 1) := by decide +kernel
theorem dL_629 : decode code 629 = .ok (.iaload, 1) := by decide +kernel
theorem dL_630 : decode code 630 = .ok (.invokevirtual 71, 3) := by decide +kernel
theorem dL_633 : decode code 633 = .ok (.if_icmp .eq 859, 3) := by decide +kernel
theorem dL_636 : decode code 636 = .ok (.iconst 0, 1) := by decide +kernel
theorem dL_637 : decode code 637 = .ok (.ireturn, 1) := by decide +kernel
theorem dL_638 : decode code 638 = .ok (.aload_n 1, 1) := by decide +kernel
theorem dL_639 : decode code 639 = .ok (.aload_n 0, 1) := by decide +kernel
theorem dL_640 : decode code 640 = .ok (.iload_n 3, 1) := by decide +kernel
theorem dL_641 : decode code 641 = .ok (.iconst 1, 1) := by decide +kernel
theorem dL_642 : decode code 642 = .ok (.iadd, 1) := by decide +kernel
theorem dL_643 : decode code 643 = .ok (.iaload, 1) := by decide +kernel
theorem dL_644 : decode code 644 = .ok (.invokevirtual 72, 3) := by decide +kernel
theorem dL_647 : decode code 647 = .ok (.aload_n 2, 1) := by decide +kernel
theorem dL_648 : decode code 648 = .ok (.aload_n 0, 1) := by decide +kernel
theorem dL_649 : decode code 649 = .ok (.iload_n 3, 1) := by decide +kernel
theorem dL_650 : decode code 650 = .ok (.iconst 1, 1) := by decide +kernel
theorem dL_651 : decode code 651 = .ok (.iadd, 1) := by decide +kernel
theorem dL_652 : decode code 652 = .ok (.iaload, 1) := by decide +kernel
theorem dL_653 : decode code 653 = .ok (.invokevirtual 75, 3) := by decide +kernel
theorem dL_656 : decode code 656 = .ok (.if_icmp .eq 836, 3) := by decide +kernel
theorem dL_659 : decode code 659 = .ok (.iconst 0, 1) := by decide +kernel
theorem dL_660 : decode code 660 = .ok (.ireturn, 1) := by decide +kernel
theorem dL_661 : decode code 661 = .ok (.aload_n 1, 1) := by decide +kernel
theorem dL_662 : decode code 662 = .ok (.aload_n 0, 1) := by decide +kernel
theorem dL_663 : decode code 663 = .ok (.iload_n 3, 1) := by decide +kernel
theorem dL_664 : decode code 664 = .ok (.iconst 1, 1) := by decide +kernel
theorem dL_665 : decode code 665 = .ok (.iadd, 1) := by decide +kernel
theorem dL_666 : decode code 666 = .ok (.iaload, 1) := by decide +kernel
theorem dL_667 : decode code 667 = .ok (.aload_n 0, 1) := by decide +kernel
theorem dL_668 : decode code 668 = .ok (.iload_n 3, 1) := by decide +kernel
theorem dL_669 : decode code 669 = .ok (.iconst 2, 1) := by decide +kernel
theorem dL_670 : decode code 670 = .ok (.iadd, 1) := by decide +kernel
theorem dL_671 : decode code 671 = .ok (.iaload, 1) := by decide +kernel
theorem dL_672 : decode code 672 = .ok (.aload_n 0, 1) := by decide +kernel
theorem dL_673 : decode code 673 = .ok (.iload_n 3, 1) := by decide +kernel
theorem dL_674 : decode code 674 = .ok (.iconst 3, 1) := by decide +kernel
theorem dL_675 : decode code 675 = .ok (.iadd, 1) := by decide +kernel
theorem dL_676 : decode code 676 = .ok (.iaload, 1) := by decide +kernel
theorem dL_677 : decode code 677 = .ok (.invokevirtual 76, 3) := by decide +kernel
theorem dL_680 : decode code 680 = .ok (.aload_n 2, 1) := by decide +kernel
theorem dL_681 : decode code 681 = .ok (.aload_n 0, 1) := by decide +kernel
theorem dL_682 : decode code 682 = .ok (.iload_n 3, 1) := by decide +kernel
theorem dL_683 : decode code 683 = .ok (.iconst 1, 1) := by decide +kernel
theorem dL_684 : decode code 684 = .ok (.iadd, 1) := by decide +kernel
theorem dL_685 : decode code 685 = .ok (.iaload, 1) := by decide +kernel
theorem dL_686 : decode code 686 = .ok (.aload_n 0, 1) := by decide +kernel
theorem dL_687 : decode code 687 = .ok (.iload_n 3, 1) := by decide +kernel
theorem dL_688 : decode code 688 = .ok (.iconst 2, 1) := by decide +kernel
theorem dL_689 : decode code 689 = .ok (.iadd, 1) := by decide +kernel
theorem dL_690 : decode code 690 = .ok (.iaload, 1) := by decide +kernel
theorem dL_691 : decode code 691 = .ok (.aload_n 0, 1) := by decide +kernel
theorem dL_692 : decode code 692 = .ok (.iload_n 3, 1) := by decide +kernel
theorem dL_693 : decode code 693 = .ok (.iconst 3, 1) := by decide +kernel
theorem dL_694 : decode code 694 = .ok (.iadd, 1) := by decide +kernel
theorem dL_695 : decode code 695 = .ok (.iaload, 1) := by decide +kernel
theorem dL_696 : decode code 696 = .ok (.invokevirtual 79, 3) := by decide +kernel
theorem dL_699 : decode code 699 = .ok (.if_icmp .eq 793, 3) := by decide +kernel
theorem dL_702 : decode code 702 = .ok (.iconst 0, 1) := by decide +kernel
theorem dL_703 : decode code 703 = .ok (.ireturn, 1) := by decide +kernel
theorem dL_704 : decode code 704 = .ok (.aload_n 1, 1) := by decide +kernel
theorem dL_705 : decode code 705 = .ok (.aload_n 0, 1) := by decide +kernel
theorem dL_706 : decode code 706 = .ok (.iload_n 3, 1) := by decide +kernel
theorem dL_707 : decode code 707 = .ok (.iconst 1, 1) := by decide +kernel
theorem dL_708 : decode code 708 = .ok (.iadd, 1) := by decide +kernel
theorem dL_709 : decode code 709 = .ok (.iaload, 1) := by decide +kernel
theorem dL_710 : decode code 710 = .ok (.aload_n 0, 1) := by decide +kernel
theorem dL_711 : decode code 711 = .ok (.iload_n 3, 1) := by decide +kernel
theorem dL_712 : decode code 712 = .ok (.iconst 2, 1) := by decide +kernel
theorem dL_713 : decode code 713 = .ok (.iadd, 1) := by decide +kernel
theorem dL_714 : decode code 714 = .ok (.iaload, 1) := by decide +kernel
theorem dL_715 : decode code 715 = .ok (.invokevirtual 80, 3) := by decide +kernel
theorem dL_718 : decode code 718 = .ok (.aload_n 2, 1) := by decide +kernel
theorem dL_719 : decode code 719 = .ok (.aload_n 0, 1) := by decide +kernel
theorem dL_720 : decode code 720 = .ok (.iload_n 3, 1) := by decide +kernel
theorem dL_721 : decode code 721 = .ok (.iconst 1, 1) := by decide +kernel
theorem dL_722 : decode code 722 = .ok (.iadd, 1) := by decide +kernel
theorem dL_723 : decode code 723 = .ok (.iaload, 1) := by decide +kernel
theorem dL_724 : decode code 724 = .ok (.aload_n 0, 1) := by decide +kernel
theorem dL_725 : decode code 725 = .ok (.iload_n 3, 1) := by decide +kernel
theorem dL_726 : decode code 726 = .ok (.iconst 2, 1) := by decide +kernel
theorem dL_727 : decode code 727 = .ok (.iadd, 1) := by decide +kernel
theorem dL_728 : decode code 728 = .ok (.iaload, 1) := by decide +kernel
theorem dL_729 : decode code 729 = .ok (.invokevirtual 83, 3) := by decide +kernel
theorem dL_732 : decode code 732 = .ok (.if_icmp .eq 760, 3) := by decide +kernel
theorem dL_735 : decode code 735 = .ok (.iconst 0, 1) := by decide +kernel
