theorem dL_law_586 : decode code 586 = .ok (.iload_n 3, 1) := by decide +kernel
theorem dL_law_587 : decode code 587 = .ok (.iconst 1, 1) := by decide +kernel
theorem dL_law_588 : decode code 588 = .ok (.iadd, 1) := by decide +kernel
theorem dL_law_589 : decode code 589 = .ok (.iaload, 1) := by decide +kernel
theorem dL_law_590 : decode code 590 = .ok (.invokevirtual 74, 3) := by decide +kernel
theorem dL_law_593 : decode code 593 = .ok (.aload_n 2, 1) := by decide +kernel
theorem dL_law_594 : decode code 594 = .ok (.aload_n 0, 1) := by decide +kernel
theorem dL_law_595 : decode code 595 = .ok (.iload_n 3, 1) := by decide +kernel
theorem dL_law_596 : decode code 596 = .ok (.iconst 1, 1) := by decide +kernel
theorem dL_law_597 : decode code 597 = .ok (.iadd, 1) := by decide +kernel
theorem dL_law_598 : decode code 598 = .ok (.iaload, 1) := by decide +kernel
theorem dL_law_599 : decode code 599 = .ok (.invokevirtual 77, 3) := by decide +kernel
theorem dL_law_602 : decode code 602 = .ok (.if_icmp .eq 361, 3) := by decide +kernel
theorem dL_law_605 : decode code 605 = .ok (.iconst 0, 1) := by decide +kernel
theorem dL_law_606 : decode code 606 = .ok (.ireturn, 1) := by decide +kernel
theorem dL_law_607 : decode code 607 = .ok (.aload_n 1, 1) := by decide +kernel
theorem dL_law_608 : decode code 608 = .ok (.aload_n 0, 1) := by decide +kernel
theorem dL_law_609 : decode code 609 = .ok (.iload_n 3, 1) := by decide +kernel
theorem dL_law_610 : decode code 610 = .ok (.iconst 1, 1) := by decide +kernel
theorem dL_law_611 : decode code 611 = .ok (.iadd, 1) := by decide +kernel
theorem dL_law_612 : decode code 612 = .ok (.iaload, 1) := by decide +kernel
theorem dL_law_613 : decode code 613 = .ok (.aload_n 0, 1) := by decide +kernel
theorem dL_law_614 : decode code 614 = .ok (.iload_n 3, 1) := by decide +kernel
theorem dL_law_615 : decode code 615 = .ok (.iconst 2, 1) := by decide +kernel
theorem dL_law_616 : decode code 616 = .ok (.iadd, 1) := by decide +kernel
theorem dL_law_617 : decode code 617 = .ok (.iaload, 1) := by decide +kernel
theorem dL_law_618 : decode code 618 = .ok (.invokevirtual 78, 3) := by decide +kernel
theorem dL_law_621 : decode code 621 = .ok (.aload_n 2, 1) := by decide +kernel
theorem dL_law_622 : decode code 622 = .ok (.aload_n 0, 1) := by decide +kernel
theorem dL_law_623 : decode code 623 = .ok (.iload_n 3, 1) := by decide +kernel
theorem dL_law_624 : decode code 624 = .ok (.iconst 1, 1) := by decide +kernel
theorem dL_law_625 : decode code 625 = .ok (.iadd, 1) := by decide +kernel
theorem dL_law_626 : decode code 626 = .ok (.iaload, 1) := by decide +kernel
theorem dL_law_627 : decode code 627 = .ok (.aload_n 0, 1) := by decide +kernel
theorem dL_law_628 : decode code 628 = .ok (.iload_n 3, 1) := by decide +kernel
theorem dL_law_629 : decode code 629 = .ok (.iconst 2, 1) := by decide +kernel
theorem dL_law_630 : decode code 630 = .ok (.iadd, 1) := by decide +kernel
theorem dL_law_631 : decode code 631 = .ok (.iaload, 1) := by decide +kernel
theorem dL_law_632 : decode code 632 = .ok (.invokevirtual 81, 3) := by decide +kernel
theorem dL_law_635 : decode code 635 = .ok (.if_icmp .eq 328, 3) := by decide +kernel
theorem dL_law_638 : decode code 638 = .ok (.iconst 0, 1) := by decide +kernel
theorem dL_law_639 : decode code 639 = .ok (.ireturn, 1) := by decide +kernel
theorem dL_law_640 : decode code 640 = .ok (.aload_n 1, 1) := by decide +kernel
theorem dL_law_641 : decode code 641 = .ok (.aload_n 0, 1) := by decide +kernel
theorem dL_law_642 : decode code 642 = .ok (.iload_n 3, 1) := by decide +kernel
theorem dL_law_643 : decode code 643 = .ok (.iconst 1, 1) := by decide +kernel
theorem dL_law_644 : decode code 644 = .ok (.iadd, 1) := by decide +kernel
theorem dL_law_645 : decode code 645 = .ok (.iaload, 1) := by decide +kernel
theorem dL_law_646 : decode code 646 = .ok (.aload_n 0, 1) := by decide +kernel
theorem dL_law_647 : decode code 647 = .ok (.iload_n 3, 1) := by decide +kernel
theorem dL_law_648 : decode code 648 = .ok (.iconst 2, 1) := by decide +kernel
theorem dL_law_649 : decode code 649 = .ok (.iadd, 1) := by decide +kernel
theorem dL_law_650 : decode code 650 = .ok (.iaload, 1) := by decide +kernel
theorem dL_law_651 : decode code 651 = .ok (.aload_n 0, 1) := by decide +kernel
theorem dL_law_652 : decode code 652 = .ok (.iload_n 3, 1) := by decide +kernel
theorem dL_law_653 : decode code 653 = .ok (.iconst 3, 1) := by decide +kernel
theorem dL_law_654 : decode code 654 = .ok (.iadd, 1) := by decide +kernel
theorem dL_law_655 : decode code 655 = .ok (.iaload, 1) := by decide +kernel
theorem dL_law_656 : decode code 656 = .ok (.aload_n 0, 1) := by decide +kernel
theorem dL_law_657 : decode code 657 = .ok (.iload_n 3, 1) := by decide +kernel
theorem dL_law_658 : decode code 658 = .ok (.iconst 4, 1) := by decide +kernel
theorem dL_law_659 : decode code 659 = .ok (.iadd, 1) := by decide +kernel
theorem dL_law_660 : decode code 660 = .ok (.iaload, 1) := by decide +kernel
theorem dL_law_661 : decode code 661 = .ok (.invokevirtual 82, 3) := by decide +kernel
theorem dL_law_664 : decode code 664 = .ok (.aload_n 2, 1) := by decide +kernel
theorem dL_law_665 : decode code 665 = .ok (.aload_n 0, 1) := by decide +kernel
theorem dL_law_666 : decode code 666 = .ok (.iload_n 3, 1) := by decide +kernel
theorem dL_law_667 : decode code 667 = .ok (.iconst 1, 1) := by decide +kernel
theorem dL_law_668 : decode code 668 = .ok (.iadd, 1) := by decide +kernel
theorem dL_law_669 : decode code 669 = .ok (.iaload, 1) := by decide +kernel
theorem dL_law_670 : decode code 670 = .ok (.aload_n 0, 1) := by decide +kernel
theorem dL_law_671 : decode code 671 = .ok (.iload_n 3, 1) := by decide +kernel
theorem dL_law_672 : decode code 672 = .ok (.iconst 2, 1) := by decide +kernel
theorem dL_law_673 : decode code 673 = .ok (.iadd, 1) := by decide +kernel
theorem dL_law_674 : decode code 674 = .ok (.iaload, 1) := by decide +kernel
theorem dL_law_675 : decode code 675 = .ok (.aload_n 0, 1) := by decide +kernel
theorem dL_law_676 : decode code 676 = .ok (.iload_n 3, 1) := by decide +kernel
theorem dL_law_677 : decode code 677 = .ok (.iconst 3, 1) := by decide +kernel
theorem dL_law_678 : decode code 678 = .ok (.iadd, 1) := by decide +kernel
theorem dL_law_679 : decode code 679 = .ok (.iaload, 1) := by decide +kernel
theorem dL_law_680 : decode code 680 = .ok (.aload_n 0, 1) := by decide +kernel
theorem dL_law_681 : decode code 681 = .ok (.iload_n 3, 1) := by decide +kernel
theorem dL_law_682 : decode code 682 = .ok (.iconst 4, 1) := by decide +kernel
theorem dL_law_683 : decode code 683 = .ok (.iadd, 1) := by decide +kernel
theorem dL_law_684 : decode code 684 = .ok (.iaload, 1) := by decide +kernel
theorem dL_law_685 : decode code 685 = .ok (.invokevirtual 86, 3) := by decide +kernel
theorem dL_law_688 : decode code 688 = .ok (.if_icmp .eq 275, 3) := by decide +kernel
theorem dL_law_691 : decode code 691 = .ok (.iconst 0, 1) := by decide +kernel
theorem dL_law_692 : decode code 692 = .ok (.ireturn, 1) := by decide +kernel
theorem dL_law_693 : decode code 693 = .ok (.aload_n 1, 1) := by decide +kernel
theorem dL_law_694 : decode code 694 = .ok (.invokevirtual 87, 3) := by decide +kernel
theorem dL_law_697 : decode code 697 = .ok (.aload_n 2, 1) := by decide +kernel
theorem dL_law_698 : decode code 698 = .ok (.invokevirtual 90, 3) := by decide +kernel
theorem dL_law_701 : decode code 701 = .ok (.if_icmp .eq 262, 3) := by decide +kernel
theorem dL_law_704 : decode code 704 = .ok (.iconst 0, 1) := by decide +kernel
theorem dL_law_705 : decode code 705 = .ok (.ireturn, 1) := by decide +kernel
theorem dL_law_706 : decode code 706 = .ok (.aload_n 1, 1) := by decide +kernel
theorem dL_law_707 : decode code 707 = .ok (.aload_n 0, 1) := by decide +kernel
theorem dL_law_708 : decode code 708 = .ok (.iload_n 3, 1) := by decide +kernel
theorem dL_law_709 : decode code 709 = .ok (.iconst 1, 1) := by decide +kernel
theorem dL_law_710 : decode code 710 = .ok (.iadd, 1) := by decide +kernel
theorem dL_law_711 : decode code 711 = .ok (.iaload, 1) := by decide +kernel
theorem dL_law_712 : decode code 712 = .ok (.invokevirtual 91, 3) := by decide +kernel
theorem dL_law_715 : decode code 715 = .ok (.aload_n 2, 1) := by decide +kernel
theorem dL_law_716 : decode code 716 = .ok (.aload_n 0, 1) := by decide +kernel
theorem dL_law_717 : decode code 717 = .ok (.iload_n 3, 1) := by decide +kernel
theorem dL_law_718 : decode code 718 = .ok (.iconst 1, 1) := by decide +kernel
theorem dL_law_719 : decode code 719 = .ok (.iadd, 1) := by decide +kernel
theorem dL_law_720 : decode code 720 = .ok (.iaload, 1) := by decide +kernel
theorem dL_law_721 : decode code 721 = .ok (.invokevirtual 94, 3) := by decide +kernel
theorem dL_law_724 : decode code 724 = .ok (.if_icmp .eq 239, 3) := by decide +kernel
theorem dL_law_727 : decode code 727 = .ok (.iconst 0, 1) := by decide +kernel
theorem dL_law_728 : decode code 728 = .ok (.ireturn, 1) := by decide +kernel
theorem dL_law_729 : decode code 729 = .ok (.aload_n 1, 1) := by decide +kernel
theorem dL_law_730 : decode code 730 = .ok (.aload_n 0, 1) := by decide +kernel
theorem dL_law_731 : decode code 731 = .ok (.iload_n 3, 1) := by decide +kernel
theorem dL_law_732 : decode code 732 = .ok (.iconst 1, 1) := by decide +kernel
theorem dL_law_733 : decode code 733 = .ok (.iadd, 1) := by decide +kernel
theorem dL_law_734 : decode code 734 = .ok (.iaload, 1) := by decide +kernel
theorem dL_law_735 : decode code 735 = .ok (.aload_n 0, 1) := by decide +kernel
