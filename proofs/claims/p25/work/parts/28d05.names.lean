theorem dL_law_557 : decode cL_law 557 = .ok (.aload_n 1, 1) := by decide +kernel
theorem dL_law_558 : decode cL_law 558 = .ok (.iconst 2, 1) := by decide +kernel
theorem dL_law_559 : decode cL_law 559 = .ok (.invokevirtual 132, 3) := by decide +kernel
theorem dL_law_562 : decode cL_law 562 = .ok (.iload 11, 2) := by decide +kernel
theorem dL_law_564 : decode cL_law 564 = .ok (.if_icmp .ne 37, 3) := by decide +kernel
theorem dL_law_567 : decode cL_law 567 = .ok (.aload_n 1, 1) := by decide +kernel
theorem dL_law_568 : decode cL_law 568 = .ok (.bipush 6, 2) := by decide +kernel
theorem dL_law_570 : decode cL_law 570 = .ok (.invokevirtual 132, 3) := by decide +kernel
theorem dL_law_573 : decode cL_law 573 = .ok (.iload 12, 2) := by decide +kernel
theorem dL_law_575 : decode cL_law 575 = .ok (.if_icmp .ne 26, 3) := by decide +kernel
theorem dL_law_578 : decode cL_law 578 = .ok (.aload_n 1, 1) := by decide +kernel
theorem dL_law_579 : decode cL_law 579 = .ok (.bipush 7, 2) := by decide +kernel
theorem dL_law_581 : decode cL_law 581 = .ok (.invokevirtual 132, 3) := by decide +kernel
theorem dL_law_584 : decode cL_law 584 = .ok (.iload 13, 2) := by decide +kernel
theorem dL_law_586 : decode cL_law 586 = .ok (.if_icmp .ne 15, 3) := by decide +kernel
theorem dL_law_589 : decode cL_law 589 = .ok (.aload_n 1, 1) := by decide +kernel
theorem dL_law_590 : decode cL_law 590 = .ok (.iconst 0, 1) := by decide +kernel
theorem dL_law_591 : decode cL_law 591 = .ok (.invokevirtual 132, 3) := by decide +kernel
theorem dL_law_594 : decode cL_law 594 = .ok (.iload 5, 2) := by decide +kernel
theorem dL_law_596 : decode cL_law 596 = .ok (.iconst 1, 1) := by decide +kernel
theorem dL_law_597 : decode cL_law 597 = .ok (.iadd, 1) := by decide +kernel
theorem dL_law_598 : decode cL_law 598 = .ok (.if_icmp .eq 5, 3) := by decide +kernel
theorem dL_law_601 : decode cL_law 601 = .ok (.iconst 0, 1) := by decide +kernel
theorem dL_law_602 : decode cL_law 602 = .ok (.ireturn, 1) := by decide +kernel
theorem dL_law_603 : decode cL_law 603 = .ok (.iconst 0, 1) := by decide +kernel
theorem dL_law_604 : decode cL_law 604 = .ok (.istore 17, 2) := by decide +kernel
theorem dL_law_606 : decode cL_law 606 = .ok (.iconst 0, 1) := by decide +kernel
theorem dL_law_607 : decode cL_law 607 = .ok (.istore 18, 2) := by decide +kernel
theorem dL_law_609 : decode cL_law 609 = .ok (.iconst 0, 1) := by decide +kernel
theorem dL_law_610 : decode cL_law 610 = .ok (.istore 19, 2) := by decide +kernel
theorem dL_law_612 : decode cL_law 612 = .ok (.iconst 0, 1) := by decide +kernel
theorem dL_law_613 : decode cL_law 613 = .ok (.istore 20, 2) := by decide +kernel
theorem dL_law_615 : decode cL_law 615 = .ok (.iload 20, 2) := by decide +kernel
theorem dL_law_617 : decode cL_law 617 = .ok (.iload_n 3, 1) := by decide +kernel
theorem dL_law_618 : decode cL_law 618 = .ok (.if_icmp .ge 609, 3) := by decide +kernel
theorem dL_law_621 : decode cL_law 621 = .ok (.aload_n 1, 1) := by decide +kernel
theorem dL_law_622 : decode cL_law 622 = .ok (.iload 20, 2) := by decide +kernel
theorem dL_law_624 : decode cL_law 624 = .ok (.bipush 6, 2) := by decide +kernel
theorem dL_law_626 : decode cL_law 626 = .ok (.invokevirtual 114, 3) := by decide +kernel
theorem dL_law_629 : decode cL_law 629 = .ok (.istore 21, 2) := by decide +kernel
theorem dL_law_631 : decode cL_law 631 = .ok (.iload 17, 2) := by decide +kernel
theorem dL_law_633 : decode cL_law 633 = .ok (.iload 21, 2) := by decide +kernel
theorem dL_law_635 : decode cL_law 635 = .ok (.ifCond .ne 7, 3) := by decide +kernel
theorem dL_law_638 : decode cL_law 638 = .ok (.iconst 1, 1) := by decide +kernel
theorem dL_law_639 : decode cL_law 639 = .ok (.goto 4, 3) := by decide +kernel
theorem dL_law_642 : decode cL_law 642 = .ok (.iconst 0, 1) := by decide +kernel
theorem dL_law_643 : decode cL_law 643 = .ok (.iadd, 1) := by decide +kernel
theorem dL_law_644 : decode cL_law 644 = .ok (.istore 17, 2) := by decide +kernel
theorem dL_law_646 : decode cL_law 646 = .ok (.aload 7, 2) := by decide +kernel
theorem dL_law_648 : decode cL_law 648 = .ok (.iload 20, 2) := by decide +kernel
theorem dL_law_650 : decode cL_law 650 = .ok (.aaload, 1) := by decide +kernel
theorem dL_law_651 : decode cL_law 651 = .ok (.bipush 6, 2) := by decide +kernel
theorem dL_law_653 : decode cL_law 653 = .ok (.iaload, 1) := by decide +kernel
theorem dL_law_654 : decode cL_law 654 = .ok (.ifCond .le 54, 3) := by decide +kernel
theorem dL_law_657 : decode cL_law 657 = .ok (.iload 21, 2) := by decide +kernel
theorem dL_law_659 : decode cL_law 659 = .ok (.aload 7, 2) := by decide +kernel
theorem dL_law_661 : decode cL_law 661 = .ok (.iload 20, 2) := by decide +kernel
theorem dL_law_663 : decode cL_law 663 = .ok (.aaload, 1) := by decide +kernel
theorem dL_law_664 : decode cL_law 664 = .ok (.bipush 6, 2) := by decide +kernel
theorem dL_law_666 : decode cL_law 666 = .ok (.iaload, 1) := by decide +kernel
