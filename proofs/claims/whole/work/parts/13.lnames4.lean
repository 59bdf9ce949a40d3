theorem dXL_law_568 : decode code 568 = .ok (.invokevirtual 72, 3) := by decide +kernel
theorem dXL_law_571 : decode code 571 = .ok (.aload_n 2, 1) := by decide +kernel
theorem dXL_law_572 : decode code 572 = .ok (.aload_n 0, 1) := by decide +kernel
theorem dXL_law_573 : decode code 573 = .ok (.iload_n 3, 1) := by decide +kernel
theorem dXL_law_574 : decode code 574 = .ok (.iconst 1, 1) := by decide +kernel
theorem dXL_law_575 : decode code 575 = .ok (.iadd, 1) := by decide +kernel
theorem dXL_law_576 : decode code 576 = .ok (.iaload, 1) := by decide +kernel
theorem dXL_law_577 : decode code 577 = .ok (.aload_n 0, 1) := by decide +kernel
theorem dXL_law_578 : decode code 578 = .ok (.iload_n 3, 1) := by decide +kernel
theorem dXL_law_579 : decode code 579 = .ok (.iconst 2, 1) := by decide +kernel
theorem dXL_law_580 : decode code 580 = .ok (.iadd, 1) := by decide +kernel
theorem dXL_law_581 : decode code 581 = .ok (.iaload, 1) := by decide +kernel
theorem dXL_law_582 : decode code 582 = .ok (.aload_n 0, 1) := by decide +kernel
theorem dXL_law_583 : decode code 583 = .ok (.iload_n 3, 1) := by decide +kernel
theorem dXL_law_584 : decode code 584 = .ok (.iconst 3, 1) := by decide +kernel
theorem dXL_law_585 : decode code 585 = .ok (.iadd, 1) := by decide +kernel
theorem dXL_law_586 : decode code 586 = .ok (.iaload, 1) := by decide +kernel
theorem dXL_law_587 : decode code 587 = .ok (.invokevirtual 76, 3) := by decide +kernel
theorem dXL_law_590 : decode code 590 = .ok (.lcmp, 1) := by decide +kernel
theorem dXL_law_591 : decode code 591 = .ok (.ifCond .eq 108, 3) := by decide +kernel
theorem dXL_law_594 : decode code 594 = .ok (.iconst 0, 1) := by decide +kernel
theorem dXL_law_595 : decode code 595 = .ok (.ireturn, 1) := by decide +kernel
theorem dXL_law_596 : decode code 596 = .ok (.aload_n 1, 1) := by decide +kernel
theorem dXL_law_597 : decode code 597 = .ok (.aload_n 0, 1) := by decide +kernel
theorem dXL_law_598 : decode code 598 = .ok (.iload_n 3, 1) := by decide +kernel
theorem dXL_law_599 : decode code 599 = .ok (.iconst 1, 1) := by decide +kernel
theorem dXL_law_600 : decode code 600 = .ok (.iadd, 1) := by decide +kernel
theorem dXL_law_601 : decode code 601 = .ok (.iaload, 1) := by decide +kernel
theorem dXL_law_602 : decode code 602 = .ok (.invokevirtual 77, 3) := by decide +kernel
theorem dXL_law_605 : decode code 605 = .ok (.aload_n 2, 1) := by decide +kernel
theorem dXL_law_606 : decode code 606 = .ok (.aload_n 0, 1) := by decide +kernel
theorem dXL_law_607 : decode code 607 = .ok (.iload_n 3, 1) := by decide +kernel
theorem dXL_law_608 : decode code 608 = .ok (.iconst 1, 1) := by decide +kernel
theorem dXL_law_609 : decode code 609 = .ok (.iadd, 1) := by decide +kernel
theorem dXL_law_610 : decode code 610 = .ok (.iaload, 1) := by decide +kernel
theorem dXL_law_611 : decode code 611 = .ok (.invokevirtual 80, 3) := by decide +kernel
theorem dXL_law_614 : decode code 614 = .ok (.if_icmp .eq 85, 3) := by decide +kernel
theorem dXL_law_617 : decode code 617 = .ok (.iconst 0, 1) := by decide +kernel
theorem dXL_law_618 : decode code 618 = .ok (.ireturn, 1) := by decide +kernel
theorem dXL_law_619 : decode code 619 = .ok (.aload_n 1, 1) := by decide +kernel
theorem dXL_law_620 : decode code 620 = .ok (.aload_n 0, 1) := by decide +kernel
theorem dXL_law_621 : decode code 621 = .ok (.iload_n 3, 1) := by decide +kernel
theorem dXL_law_622 : decode code 622 = .ok (.iconst 1, 1) := by decide +kernel
theorem dXL_law_623 : decode code 623 = .ok (.iadd, 1) := by decide +kernel
theorem dXL_law_624 : decode code 624 = .ok (.iaload, 1) := by decide +kernel
theorem dXL_law_625 : decode code 625 = .ok (.aload_n 0, 1) := by decide +kernel
theorem dXL_law_626 : decode code 626 = .ok (.iload_n 3, 1) := by decide +kernel
theorem dXL_law_627 : decode code 627 = .ok (.iconst 2, 1) := by decide +kernel
theorem dXL_law_628 : decode code 628 = .ok (.iadd, 1) := by decide +kernel
theorem dXL_law_629 : decode code 629 = .ok (.iaload, 1) := by decide +kernel
theorem dXL_law_630 : decode code 630 = .ok (.invokevirtual 81, 3) := by decide +kernel
theorem dXL_law_633 : decode code 633 = .ok (.aload_n 2, 1) := by decide +kernel
theorem dXL_law_634 : decode code 634 = .ok (.aload_n 0, 1) := by decide +kernel
theorem dXL_law_635 : decode code 635 = .ok (.iload_n 3, 1) := by decide +kernel
theorem dXL_law_636 : decode code 636 = .ok (.iconst 1, 1) := by decide +kernel
theorem dXL_law_637 : decode code 637 = .ok (.iadd, 1) := by decide +kernel
theorem dXL_law_638 : decode code 638 = .ok (.iaload, 1) := by decide +kernel
theorem dXL_law_639 : decode code 639 = .ok (.aload_n 0, 1) := by decide +kernel
theorem dXL_law_640 : decode code 640 = .ok (.iload_n 3, 1) := by decide +kernel
theorem dXL_law_641 : decode code 641 = .ok (.iconst 2, 1) := by decide +kernel
theorem dXL_law_642 : decode code 642 = .ok (.iadd, 1) := by decide +kernel
theorem dXL_law_643 : decode code 643 = .ok (.iaload, 1) := by decide +kernel
theorem dXL_law_644 : decode code 644 = .ok (.invokevirtual 84, 3) := by decide +kernel
theorem dXL_law_647 : decode code 647 = .ok (.lcmp, 1) := by decide +kernel
theorem dXL_law_648 : decode code 648 = .ok (.ifCond .eq 51, 3) := by decide +kernel
theorem dXL_law_651 : decode code 651 = .ok (.iconst 0, 1) := by decide +kernel
theorem dXL_law_652 : decode code 652 = .ok (.ireturn, 1) := by decide +kernel
theorem dXL_law_653 : decode code 653 = .ok (.aload_n 1, 1) := by decide +kernel
theorem dXL_law_654 : decode code 654 = .ok (.aload_n 0, 1) := by decide +kernel
theorem dXL_law_655 : decode code 655 = .ok (.iload_n 3, 1) := by decide +kernel
theorem dXL_law_656 : decode code 656 = .ok (.iconst 1, 1) := by decide +kernel
theorem dXL_law_657 : decode code 657 = .ok (.iadd, 1) := by decide +kernel
theorem dXL_law_658 : decode code 658 = .ok (.iaload, 1) := by decide +kernel
theorem dXL_law_659 : decode code 659 = .ok (.aload_n 0, 1) := by decide +kernel
theorem dXL_law_660 : decode code 660 = .ok (.iload_n 3, 1) := by decide +kernel
theorem dXL_law_661 : decode code 661 = .ok (.iconst 2, 1) := by decide +kernel
theorem dXL_law_662 : decode code 662 = .ok (.iadd, 1) := by decide +kernel
theorem dXL_law_663 : decode code 663 = .ok (.iaload, 1) := by decide +kernel
theorem dXL_law_664 : decode code 664 = .ok (.invokevirtual 85, 3) := by decide +kernel
theorem dXL_law_667 : decode code 667 = .ok (.aload_n 2, 1) := by decide +kernel
theorem dXL_law_668 : decode code 668 = .ok (.aload_n 0, 1) := by decide +kernel
theorem dXL_law_669 : decode code 669 = .ok (.iload_n 3, 1) := by decide +kernel
theorem dXL_law_670 : decode code 670 = .ok (.iconst 1, 1) := by decide +kernel
theorem dXL_law_671 : decode code 671 = .ok (.iadd, 1) := by decide +kernel
theorem dXL_law_672 : decode code 672 = .ok (.iaload, 1) := by decide +kernel
theorem dXL_law_673 : decode code 673 = .ok (.aload_n 0, 1) := by decide +kernel
theorem dXL_law_674 : decode code 674 = .ok (.iload_n 3, 1) := by decide +kernel
theorem dXL_law_675 : decode code 675 = .ok (.iconst 2, 1) := by decide +kernel
theorem dXL_law_676 : decode code 676 = .ok (.iadd, 1) := by decide +kernel
theorem dXL_law_677 : decode code 677 = .ok (.iaload, 1) := by decide +kernel
theorem dXL_law_678 : decode code 678 = .ok (.invokevirtual 88, 3) := by decide +kernel
theorem dXL_law_681 : decode code 681 = .ok (.if_icmp .eq 18, 3) := by decide +kernel
theorem dXL_law_684 : decode code 684 = .ok (.iconst 0, 1) := by decide +kernel
theorem dXL_law_685 : decode code 685 = .ok (.ireturn, 1) := by decide +kernel
theorem dXL_law_686 : decode code 686 = .ok (.aload_n 1, 1) := by decide +kernel
theorem dXL_law_687 : decode code 687 = .ok (.invokevirtual 89, 3) := by decide +kernel
theorem dXL_law_690 : decode code 690 = .ok (.aload_n 2, 1) := by decide +kernel
theorem dXL_law_691 : decode code 691 = .ok (.invokevirtual 93, 3) := by decide +kernel
theorem dXL_law_694 : decode code 694 = .ok (.if_icmp .eq 5, 3) := by decide +kernel
theorem dXL_law_697 : decode code 697 = .ok (.iconst 0, 1) := by decide +kernel
theorem dXL_law_698 : decode code 698 = .ok (.ireturn, 1) := by decide +kernel
theorem dXL_law_699 : decode code 699 = .ok (.iinc 3 5, 3) := by decide +kernel
theorem dXL_law_702 : decode code 702 = .ok (.goto (-684), 3) := by decide +kernel
theorem dXL_law_705 : decode code 705 = .ok (.iconst 1, 1) := by decide +kernel
theorem dXL_law_706 : decode code 706 = .ok (.ireturn, 1) := by decide +kernel
