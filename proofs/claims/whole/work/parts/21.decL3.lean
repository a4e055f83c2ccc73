theorem dL_law_590 : decode code 590 = .ok (.aload_n 1, 1) := by decide +kernel
theorem dL_law_591 : decode code 591 = .ok (.aload_n 0, 1) := by decide +kernel
theorem dL_law_592 : decode code 592 = .ok (.iload_n 3, 1) := by decide +kernel
theorem dL_law_593 : decode code 593 = .ok (.iconst 1, 1) := by decide +kernel
theorem dL_law_594 : decode code 594 = .ok (.iadd, 1) := by decide +kernel
theorem dL_law_595 : decode code 595 = .ok (.iaload, 1) := by decide +kernel
theorem dL_law_596 : decode code 596 = .ok (.invokevirtual 91, 3) := by decide +kernel
theorem dL_law_599 : decode code 599 = .ok (.aload_n 2, 1) := by decide +kernel
theorem dL_law_600 : decode code 600 = .ok (.aload_n 0, 1) := by decide +kernel
theorem dL_law_601 : decode code 601 = .ok (.iload_n 3, 1) := by decide +kernel
theorem dL_law_602 : decode code 602 = .ok (.iconst 1, 1) := by decide +kernel
theorem dL_law_603 : decode code 603 = .ok (.iadd, 1) := by decide +kernel
theorem dL_law_604 : decode code 604 = .ok (.iaload, 1) := by decide +kernel
theorem dL_law_605 : decode code 605 = .ok (.invokevirtual 94, 3) := by decide +kernel
theorem dL_law_608 : decode code 608 = .ok (.if_icmp .eq 51, 3) := by decide +kernel
theorem dL_law_611 : decode code 611 = .ok (.iconst 0, 1) := by decide +kernel
theorem dL_law_612 : decode code 612 = .ok (.ireturn, 1) := by decide +kernel
theorem dL_law_613 : decode code 613 = .ok (.aload_n 1, 1) := by decide +kernel
theorem dL_law_614 : decode code 614 = .ok (.aload_n 0, 1) := by decide +kernel
theorem dL_law_615 : decode code 615 = .ok (.iload_n 3, 1) := by decide +kernel
theorem dL_law_616 : decode code 616 = .ok (.iconst 1, 1) := by decide +kernel
theorem dL_law_617 : decode code 617 = .ok (.iadd, 1) := by decide +kernel
theorem dL_law_618 : decode code 618 = .ok (.iaload, 1) := by decide +kernel
theorem dL_law_619 : decode code 619 = .ok (.invokevirtual 95, 3) := by decide +kernel
theorem dL_law_622 : decode code 622 = .ok (.aload_n 2, 1) := by decide +kernel
theorem dL_law_623 : decode code 623 = .ok (.aload_n 0, 1) := by decide +kernel
theorem dL_law_624 : decode code 624 = .ok (.iload_n 3, 1) := by decide +kernel
theorem dL_law_625 : decode code 625 = .ok (.iconst 1, 1) := by decide +kernel
theorem dL_law_626 : decode code 626 = .ok (.iadd, 1) := by decide +kernel
theorem dL_law_627 : decode code 627 = .ok (.iaload, 1) := by decide +kernel
theorem dL_law_628 : decode code 628 = .ok (.invokevirtual 98, 3) := by decide +kernel
theorem dL_law_631 : decode code 631 = .ok (.if_icmp .eq 28, 3) := by decide +kernel
theorem dL_law_634 : decode code 634 = .ok (.iconst 0, 1) := by decide +kernel
theorem dL_law_635 : decode code 635 = .ok (.ireturn, 1) := by decide +kernel
theorem dL_law_636 : decode code 636 = .ok (.aload_n 1, 1) := by decide +kernel
theorem dL_law_637 : decode code 637 = .ok (.aload_n 0, 1) := by decide +kernel
theorem dL_law_638 : decode code 638 = .ok (.iload_n 3, 1) := by decide +kernel
theorem dL_law_639 : decode code 639 = .ok (.iconst 1, 1) := by decide +kernel
theorem dL_law_640 : decode code 640 = .ok (.iadd, 1) := by decide +kernel
theorem dL_law_641 : decode code 641 = .ok (.iaload, 1) := by decide +kernel
theorem dL_law_642 : decode code 642 = .ok (.invokevirtual 99, 3) := by decide +kernel
theorem dL_law_645 : decode code 645 = .ok (.aload_n 2, 1) := by decide +kernel
theorem dL_law_646 : decode code 646 = .ok (.aload_n 0, 1) := by decide +kernel
theorem dL_law_647 : decode code 647 = .ok (.iload_n 3, 1) := by decide +kernel
theorem dL_law_648 : decode code 648 = .ok (.iconst 1, 1) := by decide +kernel
theorem dL_law_649 : decode code 649 = .ok (.iadd, 1) := by decide +kernel
theorem dL_law_650 : decode code 650 = .ok (.iaload, 1) := by decide +kernel
theorem dL_law_651 : decode code 651 = .ok (.invokevirtual 102, 3) := by decide +kernel
theorem dL_law_654 : decode code 654 = .ok (.if_icmp .eq 5, 3) := by decide +kernel
theorem dL_law_657 : decode code 657 = .ok (.iconst 0, 1) := by decide +kernel
theorem dL_law_658 : decode code 658 = .ok (.ireturn, 1) := by decide +kernel
theorem dL_law_659 : decode code 659 = .ok (.iinc 3 4, 3) := by decide +kernel
theorem dL_law_662 : decode code 662 = .ok (.goto (-634), 3) := by decide +kernel
theorem dL_law_665 : decode code 665 = .ok (.iconst 1, 1) := by decide +kernel
theorem dL_law_666 : decode code 666 = .ok (.ireturn, 1) := by decide +kernel
theorem dL_cell_0 : decode cXL_cell 0 = .ok (.iload_n 1, 1) := by decide +kernel
theorem dL_cell_1 : decode cXL_cell 1 = .ok (.aload_n 0, 1) := by decide +kernel
theorem dL_cell_2 : decode cXL_cell 2 = .ok (.arraylength, 1) := by decide +kernel
theorem dL_cell_3 : decode cXL_cell 3 = .ok (.if_icmp .ge 9, 3) := by decide +kernel
theorem dL_cell_6 : decode cXL_cell 6 = .ok (.aload_n 0, 1) := by decide +kernel
theorem dL_cell_7 : decode cXL_cell 7 = .ok (.iload_n 1, 1) := by decide +kernel
theorem dL_cell_8 : decode cXL_cell 8 = .ok (.iaload, 1) := by decide +kernel
theorem dL_cell_9 : decode cXL_cell 9 = .ok (.goto 4, 3) := by decide +kernel
theorem dL_cell_12 : decode cXL_cell 12 = .ok (.iconst 0, 1) := by decide +kernel
theorem dL_cell_13 : decode cXL_cell 13 = .ok (.ireturn, 1) := by decide +kernel
