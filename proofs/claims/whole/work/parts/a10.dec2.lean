theorem d_Lw_law_549 : decode code 549 = .ok (.iconst 1, 1) := by decide +kernel
theorem d_Lw_law_550 : decode code 550 = .ok (.iadd, 1) := by decide +kernel
theorem d_Lw_law_551 : decode code 551 = .ok (.iaload, 1) := by decide +kernel
theorem d_Lw_law_552 : decode code 552 = .ok (.invokevirtual 83, 3) := by decide +kernel
theorem d_Lw_law_555 : decode code 555 = .ok (.if_icmp .eq 434, 3) := by decide +kernel
theorem d_Lw_law_558 : decode code 558 = .ok (.iconst 0, 1) := by decide +kernel
theorem d_Lw_law_559 : decode code 559 = .ok (.ireturn, 1) := by decide +kernel
theorem d_Lw_law_560 : decode code 560 = .ok (.aload_n 1, 1) := by decide +kernel
theorem d_Lw_law_561 : decode code 561 = .ok (.aload_n 0, 1) := by decide +kernel
theorem d_Lw_law_562 : decode code 562 = .ok (.iload 4, 2) := by decide +kernel
theorem d_Lw_law_564 : decode code 564 = .ok (.iconst 1, 1) := by decide +kernel
theorem d_Lw_law_565 : decode code 565 = .ok (.iadd, 1) := by decide +kernel
theorem d_Lw_law_566 : decode code 566 = .ok (.iaload, 1) := by decide +kernel
theorem d_Lw_law_567 : decode code 567 = .ok (.aload_n 0, 1) := by decide +kernel
theorem d_Lw_law_568 : decode code 568 = .ok (.iload 4, 2) := by decide +kernel
theorem d_Lw_law_570 : decode code 570 = .ok (.iconst 2, 1) := by decide +kernel
theorem d_Lw_law_571 : decode code 571 = .ok (.iadd, 1) := by decide +kernel
theorem d_Lw_law_572 : decode code 572 = .ok (.iaload, 1) := by decide +kernel
theorem d_Lw_law_573 : decode code 573 = .ok (.aload_n 0, 1) := by decide +kernel
theorem d_Lw_law_574 : decode code 574 = .ok (.iload 4, 2) := by decide +kernel
theorem d_Lw_law_576 : decode code 576 = .ok (.iconst 3, 1) := by decide +kernel
theorem d_Lw_law_577 : decode code 577 = .ok (.iadd, 1) := by decide +kernel
theorem d_Lw_law_578 : decode code 578 = .ok (.iaload, 1) := by decide +kernel
theorem d_Lw_law_579 : decode code 579 = .ok (.aload_n 3, 1) := by decide +kernel
theorem d_Lw_law_580 : decode code 580 = .ok (.invokestatic 84, 3) := by decide +kernel
theorem d_Lw_law_583 : decode code 583 = .ok (.istore 5, 2) := by decide +kernel
theorem d_Lw_law_585 : decode code 585 = .ok (.aload_n 2, 1) := by decide +kernel
theorem d_Lw_law_586 : decode code 586 = .ok (.aload_n 0, 1) := by decide +kernel
theorem d_Lw_law_587 : decode code 587 = .ok (.iload 4, 2) := by decide +kernel
theorem d_Lw_law_589 : decode code 589 = .ok (.iconst 1, 1) := by decide +kernel
theorem d_Lw_law_590 : decode code 590 = .ok (.iadd, 1) := by decide +kernel
theorem d_Lw_law_591 : decode code 591 = .ok (.iaload, 1) := by decide +kernel
theorem d_Lw_law_592 : decode code 592 = .ok (.aload_n 0, 1) := by decide +kernel
theorem d_Lw_law_593 : decode code 593 = .ok (.iload 4, 2) := by decide +kernel
theorem d_Lw_law_595 : decode code 595 = .ok (.iconst 2, 1) := by decide +kernel
theorem d_Lw_law_596 : decode code 596 = .ok (.iadd, 1) := by decide +kernel
theorem d_Lw_law_597 : decode code 597 = .ok (.iaload, 1) := by decide +kernel
theorem d_Lw_law_598 : decode code 598 = .ok (.aload_n 0, 1) := by decide +kernel
theorem d_Lw_law_599 : decode code 599 = .ok (.iload 4, 2) := by decide +kernel
theorem d_Lw_law_601 : decode code 601 = .ok (.iconst 3, 1) := by decide +kernel
theorem d_Lw_law_602 : decode code 602 = .ok (.iadd, 1) := by decide +kernel
theorem d_Lw_law_603 : decode code 603 = .ok (.iaload, 1) := by decide +kernel
theorem d_Lw_law_604 : decode code 604 = .ok (.invokevirtual 87, 3) := by decide +kernel
theorem d_Lw_law_607 : decode code 607 = .ok (.istore 6, 2) := by decide +kernel
theorem d_Lw_law_609 : decode code 609 = .ok (.aload_n 2, 1) := by decide +kernel
theorem d_Lw_law_610 : decode code 610 = .ok (.invokevirtual 56, 3) := by decide +kernel
theorem d_Lw_law_613 : decode code 613 = .ok (.iload 5, 2) := by decide +kernel
theorem d_Lw_law_615 : decode code 615 = .ok (.if_icmp .eq 5, 3) := by decide +kernel
theorem d_Lw_law_618 : decode code 618 = .ok (.iconst 0, 1) := by decide +kernel
theorem d_Lw_law_619 : decode code 619 = .ok (.ireturn, 1) := by decide +kernel
theorem d_Lw_law_620 : decode code 620 = .ok (.iload 5, 2) := by decide +kernel
theorem d_Lw_law_622 : decode code 622 = .ok (.ifCond .ne 15, 3) := by decide +kernel
theorem d_Lw_law_625 : decode code 625 = .ok (.aload_n 3, 1) := by decide +kernel
theorem d_Lw_law_626 : decode code 626 = .ok (.iconst 0, 1) := by decide +kernel
theorem d_Lw_law_627 : decode code 627 = .ok (.laload, 1) := by decide +kernel
theorem d_Lw_law_628 : decode code 628 = .ok (.iload 6, 2) := by decide +kernel
theorem d_Lw_law_630 : decode code 630 = .ok (.i2l, 1) := by decide +kernel
theorem d_Lw_law_631 : decode code 631 = .ok (.lcmp, 1) := by decide +kernel
theorem d_Lw_law_632 : decode code 632 = .ok (.ifCond .eq 5, 3) := by decide +kernel
theorem d_Lw_law_635 : decode code 635 = .ok (.iconst 0, 1) := by decide +kernel
theorem d_Lw_law_636 : decode code 636 = .ok (.ireturn, 1) := by decide +kernel
theorem d_Lw_law_637 : decode code 637 = .ok (.goto 352, 3) := by decide +kernel
theorem d_Lw_law_640 : decode code 640 = .ok (.aload_n 1, 1) := by decide +kernel
theorem d_Lw_law_641 : decode code 641 = .ok (.aload_n 0, 1) := by decide +kernel
theorem d_Lw_law_642 : decode code 642 = .ok (.iload 4, 2) := by decide +kernel
theorem d_Lw_law_644 : decode code 644 = .ok (.iconst 1, 1) := by decide +kernel
theorem d_Lw_law_645 : decode code 645 = .ok (.iadd, 1) := by decide +kernel
theorem d_Lw_law_646 : decode code 646 = .ok (.iaload, 1) := by decide +kernel
theorem d_Lw_law_647 : decode code 647 = .ok (.aload_n 0, 1) := by decide +kernel
theorem d_Lw_law_648 : decode code 648 = .ok (.iload 4, 2) := by decide +kernel
theorem d_Lw_law_650 : decode code 650 = .ok (.iconst 2, 1) := by decide +kernel
theorem d_Lw_law_651 : decode code 651 = .ok (.iadd, 1) := by decide +kernel
theorem d_Lw_law_652 : decode code 652 = .ok (.iaload, 1) := by decide +kernel
theorem d_Lw_law_653 : decode code 653 = .ok (.aload_n 0, 1) := by decide +kernel
theorem d_Lw_law_654 : decode code 654 = .ok (.iload 4, 2) := by decide +kernel
theorem d_Lw_law_656 : decode code 656 = .ok (.iconst 3, 1) := by decide +kernel
theorem d_Lw_law_657 : decode code 657 = .ok (.iadd, 1) := by decide +kernel
theorem d_Lw_law_658 : decode code 658 = .ok (.iaload, 1) := by decide +kernel
theorem d_Lw_law_659 : decode code 659 = .ok (.aload_n 3, 1) := by decide +kernel
theorem d_Lw_law_660 : decode code 660 = .ok (.invokestatic 88, 3) := by decide +kernel
theorem d_Lw_law_663 : decode code 663 = .ok (.istore 5, 2) := by decide +kernel
theorem d_Lw_law_665 : decode code 665 = .ok (.aload_n 2, 1) := by decide +kernel
theorem d_Lw_law_666 : decode code 666 = .ok (.aload_n 0, 1) := by decide +kernel
theorem d_Lw_law_667 : decode code 667 = .ok (.iload 4, 2) := by decide +kernel
theorem d_Lw_law_669 : decode code 669 = .ok (.iconst 1, 1) := by decide +kernel
theorem d_Lw_law_670 : decode code 670 = .ok (.iadd, 1) := by decide +kernel
theorem d_Lw_law_671 : decode code 671 = .ok (.iaload, 1) := by decide +kernel
theorem d_Lw_law_672 : decode code 672 = .ok (.aload_n 0, 1) := by decide +kernel
theorem d_Lw_law_673 : decode code 673 = .ok (.iload 4, 2) := by decide +kernel
theorem d_Lw_law_675 : decode code 675 = .ok (.iconst 2, 1) := by decide +kernel
theorem d_Lw_law_676 : decode code 676 = .ok (.iadd, 1) := by decide +kernel
theorem d_Lw_law_677 : decode code 677 = .ok (.iaload, 1) := by decide +kernel
theorem d_Lw_law_678 : decode code 678 = .ok (.aload_n 0, 1) := by decide +kernel
theorem d_Lw_law_679 : decode code 679 = .ok (.iload 4, 2) := by decide +kernel
theorem d_Lw_law_681 : decode code 681 = .ok (.iconst 3, 1) := by decide +kernel
theorem d_Lw_law_682 : decode code 682 = .ok (.iadd, 1) := by decide +kernel
theorem d_Lw_law_683 : decode code 683 = .ok (.iaload, 1) := by decide +kernel
theorem d_Lw_law_684 : decode code 684 = .ok (.invokevirtual 90, 3) := by decide +kernel
theorem d_Lw_law_687 : decode code 687 = .ok (.istore 6, 2) := by decide +kernel
theorem d_Lw_law_689 : decode code 689 = .ok (.aload_n 2, 1) := by decide +kernel
theorem d_Lw_law_690 : decode code 690 = .ok (.invokevirtual 56, 3) := by decide +kernel
theorem d_Lw_law_693 : decode code 693 = .ok (.iload 5, 2) := by decide +kernel
theorem d_Lw_law_695 : decode code 695 = .ok (.if_icmp .eq 5, 3) := by decide +kernel
theorem d_Lw_law_698 : decode code 698 = .ok (.iconst 0, 1) := by decide +kernel
theorem d_Lw_law_699 : decode code 699 = .ok (.ireturn, 1) := by decide +kernel
theorem d_Lw_law_700 : decode code 700 = .ok (.iload 5, 2) := by decide +kernel
theorem d_Lw_law_702 : decode code 702 = .ok (.ifCond .ne 15, 3) := by decide +kernel
theorem d_Lw_law_705 : decode code 705 = .ok (.aload_n 3, 1) := by decide +kernel
theorem d_Lw_law_706 : decode code 706 = .ok (.iconst 0, 1) := by decide +kernel
theorem d_Lw_law_707 : decode code 707 = .ok (.laload, 1) := by decide +kernel
theorem d_Lw_law_708 : decode code 708 = .ok (.iload 6, 2) := by decide +kernel
theorem d_Lw_law_710 : decode code 710 = .ok (.i2l, 1) := by decide +kernel
theorem d_Lw_law_711 : decode code 711 = .ok (.lcmp, 1) := by decide +kernel
theorem d_Lw_law_712 : decode code 712 = .ok (.ifCond .eq 5, 3) := by decide +kernel
theorem d_Lw_law_715 : decode code 715 = .ok (.iconst 0, 1) := by decide +kernel
theorem d_Lw_law_716 : decode code 716 = .ok (.ireturn, 1) := by decide +kernel
theorem d_Lw_law_717 : decode code 717 = .ok (.goto 272, 3) := by decide +kernel
theorem d_Lw_law_720 : decode code 720 = .ok (.aload_n 1, 1) := by decide +kernel
theorem d_Lw_law_721 : decode code 721 = .ok (.aload_n 3, 1) := by decide +kernel
theorem d_Lw_law_722 : decode code 722 = .ok (.invokestatic 91, 3) := by decide +kernel
theorem d_Lw_law_725 : decode code 725 = .ok (.istore 5, 2) := by decide +kernel
theorem d_Lw_law_727 : decode code 727 = .ok (.aload_n 2, 1) := by decide +kernel
theorem d_Lw_law_728 : decode code 728 = .ok (.invokevirtual 93, 3) := by decide +kernel
theorem d_Lw_law_731 : decode code 731 = .ok (.istore 6, 2) := by decide +kernel
theorem d_Lw_law_733 : decode code 733 = .ok (.aload_n 2, 1) := by decide +kernel
theorem d_Lw_law_734 : decode code 734 = .ok (.invokevirtual 56, 3) := by decide +kernel
theorem d_Lw_law_737 : decode code 737 = .ok (.iload 5, 2) := by decide +kernel
theorem d_Lw_law_739 : decode code 739 = .ok (.if_icmp .eq 5, 3) := by decide +kernel
theorem d_Lw_law_742 : decode code 742 = .ok (.iconst 0, 1) := by decide +kernel
theorem d_Lw_law_743 : decode code 743 = .ok (.ireturn, 1) := by decide +kernel
theorem d_Lw_law_744 : decode code 744 = .ok (.iload 5, 2) := by decide +kernel
theorem d_Lw_law_746 : decode code 746 = .ok (.ifCond .ne 15, 3) := by decide +kernel
theorem d_Lw_law_749 : decode code 749 = .ok (.aload_n 3, 1) := by decide +kernel
theorem d_Lw_law_750 : decode code 750 = .ok (.iconst 0, 1) := by decide +kernel
theorem d_Lw_law_751 : decode code 751 = .ok (.laload, 1) := by decide +kernel
theorem d_Lw_law_752 : decode code 752 = .ok (.iload 6, 2) := by decide +kernel
theorem d_Lw_law_754 : decode code 754 = .ok (.i2l, 1) := by decide +kernel
theorem d_Lw_law_755 : decode code 755 = .ok (.lcmp, 1) := by decide +kernel
theorem d_Lw_law_756 : decode code 756 = .ok (.ifCond .eq 5, 3) := by decide +kernel
theorem d_Lw_law_759 : decode code 759 = .ok (.iconst 0, 1) := by decide +kernel
theorem d_Lw_law_760 : decode code 760 = .ok (.ireturn, 1) := by decide +kernel
theorem d_Lw_law_761 : decode code 761 = .ok (.goto 228, 3) := by decide +kernel
theorem d_Lw_law_764 : decode code 764 = .ok (.aload_n 1, 1) := by decide +kernel
theorem d_Lw_law_765 : decode code 765 = .ok (.invokevirtual 94, 3) := by decide +kernel
theorem d_Lw_law_768 : decode code 768 = .ok (.aload_n 2, 1) := by decide +kernel
theorem d_Lw_law_769 : decode code 769 = .ok (.invokevirtual 98, 3) := by decide +kernel
theorem d_Lw_law_772 : decode code 772 = .ok (.if_icmp .eq 217, 3) := by decide +kernel
theorem d_Lw_law_775 : decode code 775 = .ok (.iconst 0, 1) := by decide +kernel
theorem d_Lw_law_776 : decode code 776 = .ok (.ireturn, 1) := by decide +kernel
theorem d_Lw_law_777 : decode code 777 = .ok (.aload_n 1, 1) := by decide +kernel
