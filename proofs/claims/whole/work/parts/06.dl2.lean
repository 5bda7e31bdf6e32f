theorem dL_law_488 : decode code 488 = .ok (.iconst 1, 1) := by decide +kernel
theorem dL_law_489 : decode code 489 = .ok (.iadd, 1) := by decide +kernel
theorem dL_law_490 : decode code 490 = .ok (.iaload, 1) := by decide +kernel
theorem dL_law_491 : decode code 491 = .ok (.invokevirtual 69, 3) := by decide +kernel
theorem dL_law_494 : decode code 494 = .ok (.if_icmp .eq 190, 3) := by decide +kernel
theorem dL_law_497 : decode code 497 = .ok (.iconst 0, 1) := by decide +kernel
theorem dL_law_498 : decode code 498 = .ok (.ireturn, 1) := by decide +kernel
theorem dL_law_499 : decode code 499 = .ok (.aload_n 1, 1) := by decide +kernel
theorem dL_law_500 : decode code 500 = .ok (.aload_n 0, 1) := by decide +kernel
theorem dL_law_501 : decode code 501 = .ok (.iload_n 3, 1) := by decide +kernel
theorem dL_law_502 : decode code 502 = .ok (.iconst 1, 1) := by decide +kernel
theorem dL_law_503 : decode code 503 = .ok (.iadd, 1) := by decide +kernel
theorem dL_law_504 : decode code 504 = .ok (.iaload, 1) := by decide +kernel
theorem dL_law_505 : decode code 505 = .ok (.invokevirtual 70, 3) := by decide +kernel
theorem dL_law_508 : decode code 508 = .ok (.aload_n 2, 1) := by decide +kernel
theorem dL_law_509 : decode code 509 = .ok (.aload_n 0, 1) := by decide +kernel
theorem dL_law_510 : decode code 510 = .ok (.iload_n 3, 1) := by decide +kernel
theorem dL_law_511 : decode code 511 = .ok (.iconst 1, 1) := by decide +kernel
theorem dL_law_512 : decode code 512 = .ok (.iadd, 1) := by decide +kernel
theorem dL_law_513 : decode code 513 = .ok (.iaload, 1) := by decide +kernel
theorem dL_law_514 : decode code 514 = .ok (.invokevirtual 73, 3) := by decide +kernel
theorem dL_law_517 : decode code 517 = .ok (.if_icmp .eq 167, 3) := by decide +kernel
theorem dL_law_520 : decode code 520 = .ok (.iconst 0, 1) := by decide +kernel
theorem dL_law_521 : decode code 521 = .ok (.ireturn, 1) := by decide +kernel
theorem dL_law_522 : decode code 522 = .ok (.aload_n 1, 1) := by decide +kernel
theorem dL_law_523 : decode code 523 = .ok (.aload_n 0, 1) := by decide +kernel
theorem dL_law_524 : decode code 524 = .ok (.iload_n 3, 1) := by decide +kernel
theorem dL_law_525 : decode code 525 = .ok (.iconst 1, 1) := by decide +kernel
theorem dL_law_526 : decode code 526 = .ok (.iadd, 1) := by decide +kernel
theorem dL_law_527 : decode code 527 = .ok (.iaload, 1) := by decide +kernel
theorem dL_law_528 : decode code 528 = .ok (.invokevirtual 74, 3) := by decide +kernel
theorem dL_law_531 : decode code 531 = .ok (.aload_n 2, 1) := by decide +kernel
theorem dL_law_532 : decode code 532 = .ok (.aload_n 0, 1) := by decide +kernel
theorem dL_law_533 : decode code 533 = .ok (.iload_n 3, 1) := by decide +kernel
theorem dL_law_534 : decode code 534 = .ok (.iconst 1, 1) := by decide +kernel
theorem dL_law_535 : decode code 535 = .ok (.iadd, 1) := by decide +kernel
theorem dL_law_536 : decode code 536 = .ok (.iaload, 1) := by decide +kernel
theorem dL_law_537 : decode code 537 = .ok (.invokevirtual 77, 3) := by decide +kernel
theorem dL_law_540 : decode code 540 = .ok (.if_icmp .eq 144, 3) := by decide +kernel
theorem dL_law_543 : decode code 543 = .ok (.iconst 0, 1) := by decide +kernel
theorem dL_law_544 : decode code 544 = .ok (.ireturn, 1) := by decide +kernel
theorem dL_law_545 : decode code 545 = .ok (.aload_n 1, 1) := by decide +kernel
theorem dL_law_546 : decode code 546 = .ok (.aload_n 0, 1) := by decide +kernel
theorem dL_law_547 : decode code 547 = .ok (.iload_n 3, 1) := by decide +kernel
theorem dL_law_548 : decode code 548 = .ok (.iconst 1, 1) := by decide +kernel
theorem dL_law_549 : decode code 549 = .ok (.iadd, 1) := by decide +kernel
theorem dL_law_550 : decode code 550 = .ok (.iaload, 1) := by decide +kernel
theorem dL_law_551 : decode code 551 = .ok (.invokevirtual 78, 3) := by decide +kernel
theorem dL_law_554 : decode code 554 = .ok (.aload_n 2, 1) := by decide +kernel
theorem dL_law_555 : decode code 555 = .ok (.aload_n 0, 1) := by decide +kernel
theorem dL_law_556 : decode code 556 = .ok (.iload_n 3, 1) := by decide +kernel
theorem dL_law_557 : decode code 557 = .ok (.iconst 1, 1) := by decide +kernel
theorem dL_law_558 : decode code 558 = .ok (.iadd, 1) := by decide +kernel
theorem dL_law_559 : decode code 559 = .ok (.iaload, 1) := by decide +kernel
theorem dL_law_560 : decode code 560 = .ok (.invokevirtual 81, 3) := by decide +kernel
theorem dL_law_563 : decode code 563 = .ok (.if_icmp .eq 121, 3) := by decide +kernel
theorem dL_law_566 : decode code 566 = .ok (.iconst 0, 1) := by decide +kernel
theorem dL_law_567 : decode code 567 = .ok (.ireturn, 1) := by decide +kernel
theorem dL_law_568 : decode code 568 = .ok (.aload_n 1, 1) := by decide +kernel
theorem dL_law_569 : decode code 569 = .ok (.aload_n 0, 1) := by decide +kernel
theorem dL_law_570 : decode code 570 = .ok (.iload_n 3, 1) := by decide +kernel
theorem dL_law_571 : decode code 571 = .ok (.iconst 1, 1) := by decide +kernel
theorem dL_law_572 : decode code 572 = .ok (.iadd, 1) := by decide +kernel
theorem dL_law_573 : decode code 573 = .ok (.iaload, 1) := by decide +kernel
theorem dL_law_574 : decode code 574 = .ok (.invokevirtual 82, 3) := by decide +kernel
theorem dL_law_577 : decode code 577 = .ok (.aload_n 2, 1) := by decide +kernel
theorem dL_law_578 : decode code 578 = .ok (.aload_n 0, 1) := by decide +kernel
theorem dL_law_579 : decode code 579 = .ok (.iload_n 3, 1) := by decide +kernel
theorem dL_law_580 : decode code 580 = .ok (.iconst 1, 1) := by decide +kernel
theorem dL_law_581 : decode code 581 = .ok (.iadd, 1) := by decide +kernel
theorem dL_law_582 : decode code 582 = .ok (.iaload, 1) := by decide +kernel
theorem dL_law_583 : decode code 583 = .ok (.invokevirtual 85, 3) := by decide +kernel
theorem dL_law_586 : decode code 586 = .ok (.if_icmp .eq 98, 3) := by decide +kernel
theorem dL_law_589 : decode code 589 = .ok (.iconst 0, 1) := by decide +kernel
theorem dL_law_590 : decode code 590 = .ok (.ireturn, 1) := by decide +kernel
theorem dL_law_591 : decode code 591 = .ok (.aload_n 1, 1) := by decide +kernel
theorem dL_law_592 : decode code 592 = .ok (.invokevirtual 86, 3) := by decide +kernel
theorem dL_law_595 : decode code 595 = .ok (.aload_n 2, 1) := by decide +kernel
theorem dL_law_596 : decode code 596 = .ok (.invokevirtual 89, 3) := by decide +kernel
theorem dL_law_599 : decode code 599 = .ok (.if_icmp .eq 85, 3) := by decide +kernel
theorem dL_law_602 : decode code 602 = .ok (.iconst 0, 1) := by decide +kernel
theorem dL_law_603 : decode code 603 = .ok (.ireturn, 1) := by decide +kernel
theorem dL_law_604 : decode code 604 = .ok (.aload_n 1, 1) := by decide +kernel
theorem dL_law_605 : decode code 605 = .ok (.aload_n 0, 1) := by decide +kernel
theorem dL_law_606 : decode code 606 = .ok (.iload_n 3, 1) := by decide +kernel
theorem dL_law_607 : decode code 607 = .ok (.iconst 1, 1) := by decide +kernel
theorem dL_law_608 : decode code 608 = .ok (.iadd, 1) := by decide +kernel
theorem dL_law_609 : decode code 609 = .ok (.iaload, 1) := by decide +kernel
theorem dL_law_610 : decode code 610 = .ok (.aload_n 0, 1) := by decide +kernel
theorem dL_law_611 : decode code 611 = .ok (.iload_n 3, 1) := by decide +kernel
theorem dL_law_612 : decode code 612 = .ok (.iconst 2, 1) := by decide +kernel
theorem dL_law_613 : decode code 613 = .ok (.iadd, 1) := by decide +kernel
theorem dL_law_614 : decode code 614 = .ok (.iaload, 1) := by decide +kernel
theorem dL_law_615 : decode code 615 = .ok (.invokevirtual 90, 3) := by decide +kernel
theorem dL_law_618 : decode code 618 = .ok (.aload_n 2, 1) := by decide +kernel
theorem dL_law_619 : decode code 619 = .ok (.aload_n 0, 1) := by decide +kernel
theorem dL_law_620 : decode code 620 = .ok (.iload_n 3, 1) := by decide +kernel
theorem dL_law_621 : decode code 621 = .ok (.iconst 1, 1) := by decide +kernel
theorem dL_law_622 : decode code 622 = .ok (.iadd, 1) := by decide +kernel
theorem dL_law_623 : decode code 623 = .ok (.iaload, 1) := by decide +kernel
theorem dL_law_624 : decode code 624 = .ok (.aload_n 0, 1) := by decide +kernel
theorem dL_law_625 : decode code 625 = .ok (.iload_n 3, 1) := by decide +kernel
theorem dL_law_626 : decode code 626 = .ok (.iconst 2, 1) := by decide +kernel
theorem dL_law_627 : decode code 627 = .ok (.iadd, 1) := by decide +kernel
theorem dL_law_628 : decode code 628 = .ok (.iaload, 1) := by decide +kernel
theorem dL_law_629 : decode code 629 = .ok (.invokevirtual 94, 3) := by decide +kernel
theorem dL_law_632 : decode code 632 = .ok (.lcmp, 1) := by decide +kernel
theorem dL_law_633 : decode code 633 = .ok (.ifCond .eq 51, 3) := by decide +kernel
theorem dL_law_636 : decode code 636 = .ok (.iconst 0, 1) := by decide +kernel
theorem dL_law_637 : decode code 637 = .ok (.ireturn, 1) := by decide +kernel
theorem dL_law_638 : decode code 638 = .ok (.aload_n 1, 1) := by decide +kernel
theorem dL_law_639 : decode code 639 = .ok (.aload_n 0, 1) := by decide +kernel
theorem dL_law_640 : decode code 640 = .ok (.iload_n 3, 1) := by decide +kernel
theorem dL_law_641 : decode code 641 = .ok (.iconst 1, 1) := by decide +kernel
theorem dL_law_642 : decode code 642 = .ok (.iadd, 1) := by decide +kernel
theorem dL_law_643 : decode code 643 = .ok (.iaload, 1) := by decide +kernel
theorem dL_law_644 : decode code 644 = .ok (.invokevirtual 95, 3) := by decide +kernel
theorem dL_law_647 : decode code 647 = .ok (.aload_n 2, 1) := by decide +kernel
theorem dL_law_648 : decode code 648 = .ok (.aload_n 0, 1) := by decide +kernel
theorem dL_law_649 : decode code 649 = .ok (.iload_n 3, 1) := by decide +kernel
theorem dL_law_650 : decode code 650 = .ok (.iconst 1, 1) := by decide +kernel
theorem dL_law_651 : decode code 651 = .ok (.iadd, 1) := by decide +kernel
theorem dL_law_652 : decode code 652 = .ok (.iaload, 1) := by decide +kernel
theorem dL_law_653 : decode code 653 = .ok (.invokevirtual 98, 3) := by decide +kernel
theorem dL_law_656 : decode code 656 = .ok (.if_icmp .eq 28, 3) := by decide +kernel
theorem dL_law_659 : decode code 659 = .ok (.iconst 0, 1) := by decide +kernel
theorem dL_law_660 : decode code 660 = .ok (.ireturn, 1) := by decide +kernel
theorem dL_law_661 : decode code 661 = .ok (.aload_n 1, 1) := by decide +kernel
theorem dL_law_662 : decode code 662 = .ok (.aload_n 0, 1) := by decide +kernel
theorem dL_law_663 : decode code 663 = .ok (.iload_n 3, 1) := by decide +kernel
theorem dL_law_664 : decode code 664 = .ok (.iconst 1, 1) := by decide +kernel
theorem dL_law_665 : decode code 665 = .ok (.iadd, 1) := by decide +kernel
theorem dL_law_666 : decode code 666 = .ok (.iaload, 1) := by decide +kernel
theorem dL_law_667 : decode code 667 = .ok (.invokevirtual 99, 3) := by decide +kernel
theorem dL_law_670 : decode code 670 = .ok (.aload_n 2, 1) := by decide +kernel
theorem dL_law_671 : decode code 671 = .ok (.aload_n 0, 1) := by decide +kernel
theorem dL_law_672 : decode code 672 = .ok (.iload_n 3, 1) := by decide +kernel
theorem dL_law_673 : decode code 673 = .ok (.iconst 1, 1) := by decide +kernel
theorem dL_law_674 : decode code 674 = .ok (.iadd, 1) := by decide +kernel
theorem dL_law_675 : decode code 675 = .ok (.iaload, 1) := by decide +kernel
theorem dL_law_676 : decode code 676 = .ok (.invokevirtual 102, 3) := by decide +kernel
theorem dL_law_679 : decode code 679 = .ok (.if_icmp .eq 5, 3) := by decide +kernel
theorem dL_law_682 : decode code 682 = .ok (.iconst 0, 1) := by decide +kernel
theorem dL_law_683 : decode code 683 = .ok (.ireturn, 1) := by decide +kernel
theorem dL_law_684 : decode code 684 = .ok (.iinc 3 4, 3) := by decide +kernel
theorem dL_law_687 : decode code 687 = .ok (.goto (-649), 3) := by decide +kernel
theorem dL_law_690 : decode code 690 = .ok (.iconst 1, 1) := by decide +kernel
theorem dL_law_691 : decode code 691 = .ok (.ireturn, 1) := by decide +kernel
