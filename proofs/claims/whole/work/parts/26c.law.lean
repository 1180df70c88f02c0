/-! instructions of the law, by program -/
theorem d_La_law_500 : decode b_La_law 500 = .ok (.land, 1) := by decide +kernel
theorem d_La_law_501 : decode b_La_law 501 = .ok (.lor, 1) := by decide +kernel
theorem d_La_law_502 : decode b_La_law 502 = .ok (.invokevirtual 51, 3) := by decide +kernel
theorem d_La_law_505 : decode b_La_law 505 = .ok (.if_icmp .eq 227, 3) := by decide +kernel
theorem d_La_law_508 : decode b_La_law 508 = .ok (.iconst 0, 1) := by decide +kernel
theorem d_La_law_509 : decode b_La_law 509 = .ok (.ireturn, 1) := by decide +kernel
theorem d_La_law_510 : decode b_La_law 510 = .ok (.aload_n 1, 1) := by decide +kernel
theorem d_La_law_511 : decode b_La_law 511 = .ok (.invokevirtual 52, 3) := by decide +kernel
theorem d_La_law_514 : decode b_La_law 514 = .ok (.aload_n 2, 1) := by decide +kernel
theorem d_La_law_515 : decode b_La_law 515 = .ok (.invokevirtual 56, 3) := by decide +kernel
theorem d_La_law_518 : decode b_La_law 518 = .ok (.if_icmp .eq 214, 3) := by decide +kernel
theorem d_La_law_521 : decode b_La_law 521 = .ok (.iconst 0, 1) := by decide +kernel
theorem d_La_law_522 : decode b_La_law 522 = .ok (.ireturn, 1) := by decide +kernel
theorem d_La_law_523 : decode b_La_law 523 = .ok (.aload_n 1, 1) := by decide +kernel
theorem d_La_law_524 : decode b_La_law 524 = .ok (.aload_n 0, 1) := by decide +kernel
theorem d_La_law_525 : decode b_La_law 525 = .ok (.iload_n 3, 1) := by decide +kernel
theorem d_La_law_526 : decode b_La_law 526 = .ok (.iconst 1, 1) := by decide +kernel
theorem d_La_law_527 : decode b_La_law 527 = .ok (.iadd, 1) := by decide +kernel
theorem d_La_law_528 : decode b_La_law 528 = .ok (.iaload, 1) := by decide +kernel
theorem d_La_law_529 : decode b_La_law 529 = .ok (.invokevirtual 57, 3) := by decide +kernel
theorem d_La_law_532 : decode b_La_law 532 = .ok (.aload_n 2, 1) := by decide +kernel
theorem d_La_law_533 : decode b_La_law 533 = .ok (.aload_n 0, 1) := by decide +kernel
theorem d_La_law_534 : decode b_La_law 534 = .ok (.iload_n 3, 1) := by decide +kernel
theorem d_La_law_535 : decode b_La_law 535 = .ok (.iconst 1, 1) := by decide +kernel
theorem d_La_law_536 : decode b_La_law 536 = .ok (.iadd, 1) := by decide +kernel
theorem d_La_law_537 : decode b_La_law 537 = .ok (.iaload, 1) := by decide +kernel
theorem d_La_law_538 : decode b_La_law 538 = .ok (.invokevirtual 61, 3) := by decide +kernel
theorem d_La_law_541 : decode b_La_law 541 = .ok (.if_icmp .eq 191, 3) := by decide +kernel
theorem d_La_law_544 : decode b_La_law 544 = .ok (.iconst 0, 1) := by decide +kernel
theorem d_La_law_545 : decode b_La_law 545 = .ok (.ireturn, 1) := by decide +kernel
theorem d_La_law_546 : decode b_La_law 546 = .ok (.aload_n 1, 1) := by decide +kernel
theorem d_La_law_547 : decode b_La_law 547 = .ok (.invokevirtual 62, 3) := by decide +kernel
theorem d_La_law_550 : decode b_La_law 550 = .ok (.aload_n 2, 1) := by decide +kernel
theorem d_La_law_551 : decode b_La_law 551 = .ok (.invokevirtual 65, 3) := by decide +kernel
theorem d_La_law_554 : decode b_La_law 554 = .ok (.if_icmp .eq 178, 3) := by decide +kernel
theorem d_La_law_557 : decode b_La_law 557 = .ok (.iconst 0, 1) := by decide +kernel
theorem d_La_law_558 : decode b_La_law 558 = .ok (.ireturn, 1) := by decide +kernel
theorem d_La_law_559 : decode b_La_law 559 = .ok (.aload_n 1, 1) := by decide +kernel
theorem d_La_law_560 : decode b_La_law 560 = .ok (.aload_n 0, 1) := by decide +kernel
theorem d_La_law_561 : decode b_La_law 561 = .ok (.iload_n 3, 1) := by decide +kernel
theorem d_La_law_562 : decode b_La_law 562 = .ok (.iconst 1, 1) := by decide +kernel
theorem d_La_law_563 : decode b_La_law 563 = .ok (.iadd, 1) := by decide +kernel
theorem d_La_law_564 : decode b_La_law 564 = .ok (.iaload, 1) := by decide +kernel
theorem d_La_law_565 : decode b_La_law 565 = .ok (.invokevirtual 66, 3) := by decide +kernel
theorem d_La_law_568 : decode b_La_law 568 = .ok (.aload_n 2, 1) := by decide +kernel
theorem d_La_law_569 : decode b_La_law 569 = .ok (.aload_n 0, 1) := by decide +kernel
theorem d_La_law_570 : decode b_La_law 570 = .ok (.iload_n 3, 1) := by decide +kernel
theorem d_La_law_571 : decode b_La_law 571 = .ok (.iconst 1, 1) := by decide +kernel
theorem d_La_law_572 : decode b_La_law 572 = .ok (.iadd, 1) := by decide +kernel
theorem d_La_law_573 : decode b_La_law 573 = .ok (.iaload, 1) := by decide +kernel
theorem d_La_law_574 : decode b_La_law 574 = .ok (.invokevirtual 70, 3) := by decide +kernel
theorem d_La_law_577 : decode b_La_law 577 = .ok (.if_icmp .eq 155, 3) := by decide +kernel
theorem d_La_law_580 : decode b_La_law 580 = .ok (.iconst 0, 1) := by decide +kernel
theorem d_La_law_581 : decode b_La_law 581 = .ok (.ireturn, 1) := by decide +kernel
theorem d_La_law_582 : decode b_La_law 582 = .ok (.aload_n 1, 1) := by decide +kernel
theorem d_La_law_583 : decode b_La_law 583 = .ok (.invokevirtual 71, 3) := by decide +kernel
theorem d_La_law_586 : decode b_La_law 586 = .ok (.aload_n 2, 1) := by decide +kernel
theorem d_La_law_587 : decode b_La_law 587 = .ok (.invokevirtual 74, 3) := by decide +kernel
theorem d_La_law_590 : decode b_La_law 590 = .ok (.if_icmp .eq 142, 3) := by decide +kernel
theorem d_La_law_593 : decode b_La_law 593 = .ok (.iconst 0, 1) := by decide +kernel
theorem d_La_law_594 : decode b_La_law 594 = .ok (.ireturn, 1) := by decide +kernel
theorem d_La_law_595 : decode b_La_law 595 = .ok (.aload_n 1, 1) := by decide +kernel
theorem d_La_law_596 : decode b_La_law 596 = .ok (.aload_n 0, 1) := by decide +kernel
theorem d_La_law_597 : decode b_La_law 597 = .ok (.iload_n 3, 1) := by decide +kernel
theorem d_La_law_598 : decode b_La_law 598 = .ok (.iconst 1, 1) := by decide +kernel
theorem d_La_law_599 : decode b_La_law 599 = .ok (.iadd, 1) := by decide +kernel
theorem d_La_law_600 : decode b_La_law 600 = .ok (.iaload, 1) := by decide +kernel
theorem d_La_law_601 : decode b_La_law 601 = .ok (.aload_n 0, 1) := by decide +kernel
theorem d_La_law_602 : decode b_La_law 602 = .ok (.iload_n 3, 1) := by decide +kernel
theorem d_La_law_603 : decode b_La_law 603 = .ok (.iconst 2, 1) := by decide +kernel
theorem d_La_law_604 : decode b_La_law 604 = .ok (.iadd, 1) := by decide +kernel
theorem d_La_law_605 : decode b_La_law 605 = .ok (.iaload, 1) := by decide +kernel
theorem d_La_law_606 : decode b_La_law 606 = .ok (.invokevirtual 75, 3) := by decide +kernel
theorem d_La_law_609 : decode b_La_law 609 = .ok (.aload_n 2, 1) := by decide +kernel
theorem d_La_law_610 : decode b_La_law 610 = .ok (.aload_n 0, 1) := by decide +kernel
theorem d_La_law_611 : decode b_La_law 611 = .ok (.iload_n 3, 1) := by decide +kernel
theorem d_La_law_612 : decode b_La_law 612 = .ok (.iconst 1, 1) := by decide +kernel
theorem d_La_law_613 : decode b_La_law 613 = .ok (.iadd, 1) := by decide +kernel
theorem d_La_law_614 : decode b_La_law 614 = .ok (.iaload, 1) := by decide +kernel
theorem d_La_law_615 : decode b_La_law 615 = .ok (.aload_n 0, 1) := by decide +kernel
theorem d_La_law_616 : decode b_La_law 616 = .ok (.iload_n 3, 1) := by decide +kernel
theorem d_La_law_617 : decode b_La_law 617 = .ok (.iconst 2, 1) := by decide +kernel
theorem d_La_law_618 : decode b_La_law 618 = .ok (.iadd, 1) := by decide +kernel
theorem d_La_law_619 : decode b_La_law 619 = .ok (.iaload, 1) := by decide +kernel
theorem d_La_law_620 : decode b_La_law 620 = .ok (.invokevirtual 78, 3) := by decide +kernel
theorem d_La_law_623 : decode b_La_law 623 = .ok (.if_icmp .eq 109, 3) := by decide +kernel
theorem d_La_law_626 : decode b_La_law 626 = .ok (.iconst 0, 1) := by decide +kernel
theorem d_La_law_627 : decode b_La_law 627 = .ok (.ireturn, 1) := by decide +kernel
theorem d_La_law_628 : decode b_La_law 628 = .ok (.aload_n 1, 1) := by decide +kernel
theorem d_La_law_629 : decode b_La_law 629 = .ok (.aload_n 0, 1) := by decide +kernel
theorem d_La_law_630 : decode b_La_law 630 = .ok (.iload_n 3, 1) := by decide +kernel
theorem d_La_law_631 : decode b_La_law 631 = .ok (.iconst 1, 1) := by decide +kernel
theorem d_La_law_632 : decode b_La_law 632 = .ok (.iadd, 1) := by decide +kernel
theorem d_La_law_633 : decode b_La_law 633 = .ok (.iaload, 1) := by decide +kernel
theorem d_La_law_634 : decode b_La_law 634 = .ok (.aload_n 0, 1) := by decide +kernel
theorem d_La_law_635 : decode b_La_law 635 = .ok (.iload_n 3, 1) := by decide +kernel
theorem d_La_law_636 : decode b_La_law 636 = .ok (.iconst 2, 1) := by decide +kernel
theorem d_La_law_637 : decode b_La_law 637 = .ok (.iadd, 1) := by decide +kernel
theorem d_La_law_638 : decode b_La_law 638 = .ok (.iaload, 1) := by decide +kernel
theorem d_La_law_639 : decode b_La_law 639 = .ok (.invokevirtual 79, 3) := by decide +kernel
theorem d_La_law_642 : decode b_La_law 642 = .ok (.aload_n 2, 1) := by decide +kernel
theorem d_La_law_643 : decode b_La_law 643 = .ok (.aload_n 0, 1) := by decide +kernel
theorem d_La_law_644 : decode b_La_law 644 = .ok (.iload_n 3, 1) := by decide +kernel
theorem d_La_law_645 : decode b_La_law 645 = .ok (.iconst 1, 1) := by decide +kernel
theorem d_La_law_646 : decode b_La_law 646 = .ok (.iadd, 1) := by decide +kernel
theorem d_La_law_647 : decode b_La_law 647 = .ok (.iaload, 1) := by decide +kernel
theorem d_La_law_648 : decode b_La_law 648 = .ok (.aload_n 0, 1) := by decide +kernel
theorem d_La_law_649 : decode b_La_law 649 = .ok (.iload_n 3, 1) := by decide +kernel
theorem d_La_law_650 : decode b_La_law 650 = .ok (.iconst 2, 1) := by decide +kernel
theorem d_La_law_651 : decode b_La_law 651 = .ok (.iadd, 1) := by decide +kernel
theorem d_La_law_652 : decode b_La_law 652 = .ok (.iaload, 1) := by decide +kernel
theorem d_La_law_653 : decode b_La_law 653 = .ok (.invokevirtual 82, 3) := by decide +kernel
theorem d_La_law_656 : decode b_La_law 656 = .ok (.if_icmp .eq 76, 3) := by decide +kernel
theorem d_La_law_659 : decode b_La_law 659 = .ok (.iconst 0, 1) := by decide +kernel
theorem d_La_law_660 : decode b_La_law 660 = .ok (.ireturn, 1) := by decide +kernel
theorem d_La_law_661 : decode b_La_law 661 = .ok (.aload_n 1, 1) := by decide +kernel
theorem d_La_law_662 : decode b_La_law 662 = .ok (.aload_n 0, 1) := by decide +kernel
theorem d_La_law_663 : decode b_La_law 663 = .ok (.iload_n 3, 1) := by decide +kernel
theorem d_La_law_664 : decode b_La_law 664 = .ok (.iconst 1, 1) := by decide +kernel
theorem d_La_law_665 : decode b_La_law 665 = .ok (.iadd, 1) := by decide +kernel
theorem d_La_law_666 : decode b_La_law 666 = .ok (.iaload, 1) := by decide +kernel
theorem d_La_law_667 : decode b_La_law 667 = .ok (.invokevirtual 83, 3) := by decide +kernel
theorem d_La_law_670 : decode b_La_law 670 = .ok (.aload_n 2, 1) := by decide +kernel
theorem d_La_law_671 : decode b_La_law 671 = .ok (.aload_n 0, 1) := by decide +kernel
theorem d_La_law_672 : decode b_La_law 672 = .ok (.iload_n 3, 1) := by decide +kernel
theorem d_La_law_673 : decode b_La_law 673 = .ok (.iconst 1, 1) := by decide +kernel
theorem d_La_law_674 : decode b_La_law 674 = .ok (.iadd, 1) := by decide +kernel
theorem d_La_law_675 : decode b_La_law 675 = .ok (.iaload, 1) := by decide +kernel
theorem d_La_law_676 : decode b_La_law 676 = .ok (.invokevirtual 86, 3) := by decide +kernel
theorem d_La_law_679 : decode b_La_law 679 = .ok (.if_icmp .eq 53, 3) := by decide +kernel
theorem d_La_law_682 : decode b_La_law 682 = .ok (.iconst 0, 1) := by decide +kernel
theorem d_La_law_683 : decode b_La_law 683 = .ok (.ireturn, 1) := by decide +kernel
theorem d_La_law_684 : decode b_La_law 684 = .ok (.aload_n 1, 1) := by decide +kernel
theorem d_La_law_685 : decode b_La_law 685 = .ok (.aload_n 0, 1) := by decide +kernel
theorem d_La_law_686 : decode b_La_law 686 = .ok (.iload_n 3, 1) := by decide +kernel
theorem d_La_law_687 : decode b_La_law 687 = .ok (.iconst 1, 1) := by decide +kernel
theorem d_La_law_688 : decode b_La_law 688 = .ok (.iadd, 1) := by decide +kernel
theorem d_La_law_689 : decode b_La_law 689 = .ok (.iaload, 1) := by decide +kernel
theorem d_La_law_690 : decode b_La_law 690 = .ok (.invokevirtual 87, 3) := by decide +kernel
theorem d_La_law_693 : decode b_La_law 693 = .ok (.aload_n 2, 1) := by decide +kernel
theorem d_La_law_694 : decode b_La_law 694 = .ok (.aload_n 0, 1) := by decide +kernel
theorem d_La_law_695 : decode b_La_law 695 = .ok (.iload_n 3, 1) := by decide +kernel
theorem d_La_law_696 : decode b_La_law 696 = .ok (.iconst 1, 1) := by decide +kernel
theorem d_La_law_697 : decode b_La_law 697 = .ok (.iadd, 1) := by decide +kernel
theorem d_La_law_698 : decode b_La_law 698 = .ok (.iaload, 1) := by decide +kernel
theorem d_La_law_699 : decode b_La_law 699 = .ok (.invokevirtual 91, 3) := by decide +kernel
theorem d_La_law_702 : decode b_La_law 702 = .ok (.lcmp, 1) := by decide +kernel
theorem d_La_law_703 : decode b_La_law 703 = .ok (.ifCond .eq 29, 3) := by decide +kernel
theorem d_La_law_706 : decode b_La_law 706 = .ok (.iconst 0, 1) := by decide +kernel
theorem d_La_law_707 : decode b_La_law 707 = .ok (.ireturn, 1) := by decide +kernel
theorem d_La_law_708 : decode b_La_law 708 = .ok (.aload_n 1, 1) := by decide +kernel
theorem d_La_law_709 : decode b_La_law 709 = .ok (.aload_n 0, 1) := by decide +kernel
theorem d_La_law_710 : decode b_La_law 710 = .ok (.iload_n 3, 1) := by decide +kernel
theorem d_La_law_711 : decode b_La_law 711 = .ok (.iconst 1, 1) := by decide +kernel
theorem d_La_law_712 : decode b_La_law 712 = .ok (.iadd, 1) := by decide +kernel
theorem d_La_law_713 : decode b_La_law 713 = .ok (.iaload, 1) := by decide +kernel
theorem d_La_law_714 : decode b_La_law 714 = .ok (.invokevirtual 92, 3) := by decide +kernel
theorem d_La_law_717 : decode b_La_law 717 = .ok (.aload_n 2, 1) := by decide +kernel
theorem d_La_law_718 : decode b_La_law 718 = .ok (.aload_n 0, 1) := by decide +kernel
theorem d_La_law_719 : decode b_La_law 719 = .ok (.iload_n 3, 1) := by decide +kernel
theorem d_La_law_720 : decode b_La_law 720 = .ok (.iconst 1, 1) := by decide +kernel
theorem d_La_law_721 : decode b_La_law 721 = .ok (.iadd, 1) := by decide +kernel
theorem d_La_law_722 : decode b_La_law 722 = .ok (.iaload, 1) := by decide +kernel
theorem d_La_law_723 : decode b_La_law 723 = .ok (.invokevirtual 95, 3) := by decide +kernel
theorem d_La_law_726 : decode b_La_law 726 = .ok (.lcmp, 1) := by decide +kernel
theorem d_La_law_727 : decode b_La_law 727 = .ok (.ifCond .eq 5, 3) := by decide +kernel
theorem d_La_law_730 : decode b_La_law 730 = .ok (.iconst 0, 1) := by decide +kernel
theorem d_La_law_731 : decode b_La_law 731 = .ok (.ireturn, 1) := by decide +kernel
theorem d_La_law_732 : decode b_La_law 732 = .ok (.iinc 3 6, 3) := by decide +kernel
theorem d_La_law_735 : decode b_La_law 735 = .ok (.goto (-717), 3) := by decide +kernel
theorem d_La_law_738 : decode b_La_law 738 = .ok (.iconst 1, 1) := by decide +kernel
theorem d_La_law_739 : decode b_La_law 739 = .ok (.ireturn, 1) := by decide +kernel
