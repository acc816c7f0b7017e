set_option linter.unusedSimpArgs false
set_option linter.unusedVariables false
/-! ===== the shapes: what things there are (by wip/whole/pure/shape.py) ===== -/
abbrev ShA (ρ : ao_H) : Prop :=
  ρ.2.1 0 = 20 ∧
  ρ.2.1 1 = 1 ∧
  ρ.2.1 2 = 14 ∧
  ρ.2.1 3 = 19 ∧
  ρ.2.1 5 = 0 ∧
  ρ.2.1 6 = 0 ∧
  ρ.2.1 7 = 0 ∧
  ρ.2.1 8 = 11 ∧
  ρ.2.1 9 = 0 ∧
  ρ.2.1 10 = 0 ∧
  ρ.2.1 11 = 0 ∧
  ρ.2.1 12 = 12 ∧
  ρ.2.1 13 = 15 ∧
  ρ.2.1 14 = 0 ∧
  ρ.2.1 15 = 0 ∧
  ρ.2.1 16 = 0 ∧
  ρ.2.1 17 = 0 ∧
  ρ.2.1 18 = 0 ∧
  ρ.2.1 22 = 18 ∧
  ρ.2.1 23 = 0 ∧
  ρ.2.1 24 = 0 ∧
  ρ.2.1 25 = 16 ∧
  ρ.2.1 26 = 0 ∧
  ρ.2.1 27 = 0 ∧
  ρ.2.1 28 = 0 ∧
  ρ.2.1 29 = 0 ∧
  ρ.2.1 30 = 0 ∧
  ρ.2.1 31 = 6 ∧
  ρ.2.1 46 = 6 ∧
  ρ.2.1 61 = 6 ∧
  ρ.2.1 76 = 6 ∧
  ρ.2.1 91 = 4 ∧
  ρ.2.1 518 = 10 ∧
  ρ.2.1 519 = 0 ∧
  ρ.2.1 520 = 6 ∧
  ρ.2.1 536 = 0 ∧
  ρ.2.2.1 1 = 1000 ∧
  ρ.2.2.1 5 = 1001 ∧
  ρ.2.2.1 6 = 1001 ∧
  ρ.2.2.1 7 = 1001 ∧
  ρ.2.2.1 9 = 1000 ∧
  ρ.2.2.1 10 = 1000 ∧
  ρ.2.2.1 11 = 1000 ∧
  ρ.2.2.1 14 = 26 ∧
  ρ.2.2.1 15 = 26 ∧
  ρ.2.2.1 16 = 26 ∧
  ρ.2.2.1 17 = 26 ∧
  ρ.2.2.1 18 = 26 ∧
  ρ.2.2.1 23 = 200 ∧
  ρ.2.2.1 24 = 200 ∧
  ρ.2.2.1 26 = 300 ∧
  ρ.2.2.1 27 = 300 ∧
  ρ.2.2.1 28 = 300 ∧
  ρ.2.2.1 29 = 300 ∧
  ρ.2.2.1 30 = 300 ∧
  ρ.2.2.1 31 = 14 ∧
  ρ.2.2.1 46 = 14 ∧
  ρ.2.2.1 61 = 14 ∧
  ρ.2.2.1 76 = 14 ∧
  ρ.2.2.1 91 = 6 ∧
  ρ.2.2.1 519 = 14 ∧
  ρ.2.2.1 520 = 15 ∧
  ρ.2.2.1 536 = 14 ∧
  ρ.1 0 0 = some 1 ∧
  ρ.1 0 1 = some 2 ∧
  ρ.1 0 2 = some 12 ∧
  ρ.1 0 3 = some 518 ∧
  ρ.1 2 0 = some 3 ∧
  ρ.1 2 1 = some 8 ∧
  ρ.1 3 3 = some 5 ∧
  ρ.1 3 4 = some 6 ∧
  ρ.1 3 5 = some 7 ∧
  ρ.1 8 1 = some 9 ∧
  ρ.1 8 2 = some 10 ∧
  ρ.1 8 3 = some 11 ∧
  ρ.1 12 0 = some 13 ∧
  ρ.1 12 1 = some 91 ∧
  ρ.1 12 2 = some 22 ∧
  ρ.1 12 3 = some 25 ∧
  ρ.1 13 0 = some 14 ∧
  ρ.1 13 1 = some 15 ∧
  ρ.1 13 2 = some 16 ∧
  ρ.1 13 3 = some 17 ∧
  ρ.1 13 5 = some 18 ∧
  ρ.1 22 0 = some 23 ∧
  ρ.1 22 1 = some 24 ∧
  ρ.1 25 0 = some 26 ∧
  ρ.1 25 1 = some 27 ∧
  ρ.1 25 2 = some 28 ∧
  ρ.1 25 3 = some 29 ∧
  ρ.1 25 4 = some 30 ∧
  ρ.1 25 5 = some 31 ∧
  ρ.1 25 6 = some 46 ∧
  ρ.1 25 7 = some 61 ∧
  ρ.1 25 8 = some 76 ∧
  ρ.1 518 0 = some 519 ∧
  ρ.1 518 2 = some 520 ∧
  ρ.1 518 3 = some 536
abbrev ShB (ρ : ao_H) : Prop :=
  (∀ t, t < 6 → ρ.1 91 t = some (92 + 71 * t)) ∧
  (∀ t, t < 6 → ρ.2.1 (92 + 71 * t) = 17) ∧
  (∀ t, t < 6 → ρ.2.1 (92 + 71 * t + 5) = 0) ∧
  (∀ t, t < 6 → ρ.2.1 (92 + 71 * t + 6) = 0) ∧
  (∀ t, t < 6 → ρ.2.1 (92 + 71 * t + 7) = 5) ∧
  (∀ t, t < 6 → ρ.2.1 (92 + 71 * t + 68) = 0) ∧
  (∀ t, t < 6 → ρ.2.1 (92 + 71 * t + 69) = 0) ∧
  (∀ t, t < 6 → ρ.2.1 (92 + 71 * t + 70) = 0) ∧
  (∀ t, t < 6 → ρ.2.2.1 (92 + 71 * t + 5) = 64) ∧
  (∀ t, t < 6 → ρ.2.2.1 (92 + 71 * t + 6) = 26) ∧
  (∀ t, t < 6 → ρ.2.2.1 (92 + 71 * t + 7) = 10) ∧
  (∀ t, t < 6 → ρ.2.2.1 (92 + 71 * t + 68) = 10) ∧
  (∀ t, t < 6 → ρ.2.2.1 (92 + 71 * t + 69) = 10) ∧
  (∀ t, t < 6 → ρ.2.2.1 (92 + 71 * t + 70) = 200) ∧
  (∀ t, t < 6 → ρ.1 (92 + 71 * t) 4 = some (92 + 71 * t + 5)) ∧
  (∀ t, t < 6 → ρ.1 (92 + 71 * t) 6 = some (92 + 71 * t + 6)) ∧
  (∀ t, t < 6 → ρ.1 (92 + 71 * t) 7 = some (92 + 71 * t + 7)) ∧
  (∀ t, t < 6 → ρ.1 (92 + 71 * t) 9 = some (92 + 71 * t + 68)) ∧
  (∀ t, t < 6 → ρ.1 (92 + 71 * t) 10 = some (92 + 71 * t + 69)) ∧
  (∀ t, t < 6 → ρ.1 (92 + 71 * t) 12 = some (92 + 71 * t + 70)) ∧
  (∀ t, t < 6 → ∀ j, j < 10 → ρ.1 (92 + 71 * t + 7) j = some (92 + 71 * t + 8 + 6 * j)) ∧
  (∀ t, t < 6 → ∀ j, j < 10 → ρ.2.1 (92 + 71 * t + 8 + 6 * j) = 13) ∧
  (∀ t, t < 6 → ∀ j, j < 10 → ρ.2.1 (92 + 71 * t + 8 + 6 * j + 1) = 0) ∧
  (∀ t, t < 6 → ∀ j, j < 10 → ρ.2.1 (92 + 71 * t + 8 + 6 * j + 2) = 0) ∧
  (∀ t, t < 6 → ∀ j, j < 10 → ρ.2.1 (92 + 71 * t + 8 + 6 * j + 3) = 0) ∧
  (∀ t, t < 6 → ∀ j, j < 10 → ρ.2.1 (92 + 71 * t + 8 + 6 * j + 4) = 0) ∧
  (∀ t, t < 6 → ∀ j, j < 10 → ρ.2.1 (92 + 71 * t + 8 + 6 * j + 5) = 0) ∧
  (∀ t, t < 6 → ∀ j, j < 10 → ρ.2.2.1 (92 + 71 * t + 8 + 6 * j + 1) = 26) ∧
  (∀ t, t < 6 → ∀ j, j < 10 → ρ.2.2.1 (92 + 71 * t + 8 + 6 * j + 2) = 26) ∧
  (∀ t, t < 6 → ∀ j, j < 10 → ρ.2.2.1 (92 + 71 * t + 8 + 6 * j + 3) = 26) ∧
  (∀ t, t < 6 → ∀ j, j < 10 → ρ.2.2.1 (92 + 71 * t + 8 + 6 * j + 4) = 26) ∧
  (∀ t, t < 6 → ∀ j, j < 10 → ρ.2.2.1 (92 + 71 * t + 8 + 6 * j + 5) = 26) ∧
  (∀ t, t < 6 → ∀ j, j < 10 → ρ.1 (92 + 71 * t + 8 + 6 * j) 0 = some (92 + 71 * t + 8 + 6 * j + 1)) ∧
  (∀ t, t < 6 → ∀ j, j < 10 → ρ.1 (92 + 71 * t + 8 + 6 * j) 1 = some (92 + 71 * t + 8 + 6 * j + 2)) ∧
  (∀ t, t < 6 → ∀ j, j < 10 → ρ.1 (92 + 71 * t + 8 + 6 * j) 2 = some (92 + 71 * t + 8 + 6 * j + 3)) ∧
  (∀ t, t < 6 → ∀ j, j < 10 → ρ.1 (92 + 71 * t + 8 + 6 * j) 5 = some (92 + 71 * t + 8 + 6 * j + 4)) ∧
  (∀ t, t < 6 → ∀ j, j < 10 → ρ.1 (92 + 71 * t + 8 + 6 * j) 7 = some (92 + 71 * t + 8 + 6 * j + 5))
abbrev ShG (ρ : ao_H) : Prop :=
  (∀ j, j < 14 → ρ.1 31 j = some (32 + j)) ∧
  (∀ j, j < 14 → ρ.2.1 (32 + j) = 0) ∧
  (∀ j, j < 14 → ρ.2.2.1 (32 + j) = 26) ∧
  (∀ j, j < 14 → ρ.1 46 j = some (47 + j)) ∧
  (∀ j, j < 14 → ρ.2.1 (47 + j) = 0) ∧
  (∀ j, j < 14 → ρ.2.2.1 (47 + j) = 26) ∧
  (∀ j, j < 14 → ρ.1 61 j = some (62 + j)) ∧
  (∀ j, j < 14 → ρ.2.1 (62 + j) = 0) ∧
  (∀ j, j < 14 → ρ.2.2.1 (62 + j) = 26) ∧
  (∀ j, j < 14 → ρ.1 76 j = some (77 + j)) ∧
  (∀ j, j < 14 → ρ.2.1 (77 + j) = 0) ∧
  (∀ j, j < 14 → ρ.2.2.1 (77 + j) = 26) ∧
  (∀ j, j < 15 → ρ.1 520 j = some (521 + j)) ∧
  (∀ j, j < 15 → ρ.2.1 (521 + j) = 0) ∧
  (∀ j, j < 15 → ρ.2.2.1 (521 + j) = 26)
abbrev ShD (ρ : ao_H) : Prop :=
  ρ.2.1 537 = 22 ∧
  ρ.2.1 539 = 1 ∧
  ρ.2.1 540 = 1 ∧
  ρ.2.1 541 = 0 ∧
  ρ.2.1 542 = 0 ∧
  ρ.2.1 543 = 0 ∧
  ρ.2.1 544 = 0 ∧
  ρ.2.1 545 = 0 ∧
  ρ.2.1 546 = 0 ∧
  ρ.2.1 550 = 0 ∧
  ρ.2.1 551 = 0 ∧
  ρ.2.1 552 = 0 ∧
  ρ.2.1 553 = 0 ∧
  ρ.2.1 554 = 0 ∧
  ρ.2.1 555 = 0 ∧
  ρ.2.1 556 = 0 ∧
  ρ.2.1 557 = 0 ∧
  ρ.2.1 558 = 0 ∧
  ρ.2.1 559 = 0 ∧
  ρ.2.1 560 = 0 ∧
  ρ.2.1 561 = 0 ∧
  ρ.2.1 562 = 0 ∧
  ρ.2.1 563 = 0 ∧
  ρ.2.1 564 = 0 ∧
  ρ.2.1 565 = 0 ∧
  ρ.2.1 566 = 0 ∧
  ρ.2.1 567 = 0 ∧
  ρ.2.1 568 = 0 ∧
  ρ.2.1 569 = 0 ∧
  ρ.2.1 570 = 0 ∧
  ρ.2.1 571 = 0 ∧
  ρ.2.1 572 = 0 ∧
  ρ.2.1 573 = 0 ∧
  ρ.2.1 574 = 0 ∧
  ρ.2.1 575 = 0 ∧
  ρ.2.1 576 = 2 ∧
  ρ.2.1 577 = 2 ∧
  ρ.2.1 578 = 2 ∧
  ρ.2.1 579 = 0 ∧
  ρ.2.1 580 = 0 ∧
  ρ.2.1 581 = 0 ∧
  ρ.2.1 582 = 0 ∧
  ρ.2.1 583 = 0 ∧
  ρ.2.1 584 = 0 ∧
  ρ.2.1 585 = 0 ∧
  ρ.2.1 586 = 0 ∧
  ρ.2.1 587 = 0 ∧
  ρ.2.1 588 = 0 ∧
  ρ.2.1 589 = 0 ∧
  ρ.2.1 590 = 0 ∧
  ρ.2.1 591 = 0 ∧
  ρ.2.1 592 = 2 ∧
  ρ.2.1 593 = 2 ∧
  ρ.2.1 594 = 0 ∧
  ρ.2.1 595 = 0 ∧
  ρ.2.1 596 = 0 ∧
  ρ.2.1 597 = 2 ∧
  ρ.2.2.1 539 = 1000 ∧
  ρ.2.2.1 540 = 1000 ∧
  ρ.2.2.1 541 = 18000 ∧
  ρ.2.2.1 542 = 26 ∧
  ρ.2.2.1 543 = 26 ∧
  ρ.2.2.1 544 = 26 ∧
  ρ.2.2.1 545 = 26 ∧
  ρ.2.2.1 546 = 26 ∧
  ρ.2.2.1 550 = 108000 ∧
  ρ.2.2.1 551 = 6 ∧
  ρ.2.2.1 552 = 6 ∧
  ρ.2.2.1 553 = 156 ∧
  ρ.2.2.1 554 = 384 ∧
  ρ.2.2.1 555 = 6 ∧
  ρ.2.2.1 556 = 6 ∧
  ρ.2.2.1 557 = 6 ∧
  ρ.2.2.1 558 = 6 ∧
  ρ.2.2.1 559 = 6 ∧
  ρ.2.2.1 560 = 6 ∧
  ρ.2.2.1 561 = 6 ∧
  ρ.2.2.1 562 = 6 ∧
  ρ.2.2.1 563 = 6 ∧
  ρ.2.2.1 564 = 6 ∧
  ρ.2.2.1 565 = 72 ∧
  ρ.2.2.1 566 = 72 ∧
  ρ.2.2.1 567 = 72 ∧
  ρ.2.2.1 568 = 72 ∧
  ρ.2.2.1 569 = 72 ∧
  ρ.2.2.1 570 = 72 ∧
  ρ.2.2.1 571 = 72 ∧
  ρ.2.2.1 572 = 72 ∧
  ρ.2.2.1 573 = 72 ∧
  ρ.2.2.1 574 = 72 ∧
  ρ.2.2.1 575 = 1872 ∧
  ρ.2.2.1 576 = 72 ∧
  ρ.2.2.1 577 = 1872 ∧
  ρ.2.2.1 578 = 1872 ∧
  ρ.2.2.1 579 = 1872 ∧
  ρ.2.2.1 580 = 1872 ∧
  ρ.2.2.1 581 = 1872 ∧
  ρ.2.2.1 582 = 1872 ∧
  ρ.2.2.1 583 = 14400 ∧
  ρ.2.2.1 584 = 72 ∧
  ρ.2.2.1 585 = 200 ∧
  ρ.2.2.1 586 = 200 ∧
  ρ.2.2.1 587 = 300 ∧
  ρ.2.2.1 588 = 300 ∧
  ρ.2.2.1 589 = 300 ∧
  ρ.2.2.1 590 = 7800 ∧
  ρ.2.2.1 591 = 7800 ∧
  ρ.2.2.1 592 = 7800 ∧
  ρ.2.2.1 593 = 7800 ∧
  ρ.2.2.1 594 = 15 ∧
  ρ.2.2.1 595 = 16 ∧
  ρ.2.2.1 596 = 416 ∧
  ρ.2.2.1 597 = 15 ∧
  ρ.1 537 4 = some 539 ∧
  ρ.1 537 5 = some 540 ∧
  ρ.1 537 12 = some 541 ∧
  ρ.1 537 17 = some 542 ∧
  ρ.1 537 18 = some 543 ∧
  ρ.1 537 19 = some 544 ∧
  ρ.1 537 20 = some 545 ∧
  ρ.1 537 21 = some 546 ∧
  ρ.1 537 28 = some 550 ∧
  ρ.1 537 29 = some 551 ∧
  ρ.1 537 30 = some 552 ∧
  ρ.1 537 31 = some 553 ∧
  ρ.1 537 32 = some 554 ∧
  ρ.1 537 33 = some 555 ∧
  ρ.1 537 34 = some 556 ∧
  ρ.1 537 35 = some 557 ∧
  ρ.1 537 36 = some 558 ∧
  ρ.1 537 37 = some 559 ∧
  ρ.1 537 38 = some 560 ∧
  ρ.1 537 39 = some 561 ∧
  ρ.1 537 40 = some 562 ∧
  ρ.1 537 41 = some 563 ∧
  ρ.1 537 42 = some 564 ∧
  ρ.1 537 43 = some 565 ∧
  ρ.1 537 44 = some 566 ∧
  ρ.1 537 45 = some 567 ∧
  ρ.1 537 46 = some 568 ∧
  ρ.1 537 47 = some 569 ∧
  ρ.1 537 48 = some 570 ∧
  ρ.1 537 49 = some 571 ∧
  ρ.1 537 50 = some 572 ∧
  ρ.1 537 51 = some 573 ∧
  ρ.1 537 52 = some 574 ∧
  ρ.1 537 53 = some 575 ∧
  ρ.1 537 54 = some 576 ∧
  ρ.1 537 55 = some 577 ∧
  ρ.1 537 56 = some 578 ∧
  ρ.1 537 57 = some 579 ∧
  ρ.1 537 58 = some 580 ∧
  ρ.1 537 59 = some 581 ∧
  ρ.1 537 60 = some 582 ∧
  ρ.1 537 61 = some 583 ∧
  ρ.1 537 62 = some 584 ∧
  ρ.1 537 66 = some 585 ∧
  ρ.1 537 67 = some 586 ∧
  ρ.1 537 69 = some 587 ∧
  ρ.1 537 70 = some 588 ∧
  ρ.1 537 71 = some 589 ∧
  ρ.1 537 72 = some 590 ∧
  ρ.1 537 73 = some 591 ∧
  ρ.1 537 74 = some 592 ∧
  ρ.1 537 75 = some 593 ∧
  ρ.1 537 78 = some 594 ∧
  ρ.1 537 79 = some 595 ∧
  ρ.1 537 80 = some 596 ∧
  ρ.1 537 81 = some 597
abbrev ShO (ρ : ao_H) : Prop := ρ.2.1 598 = 3 ∧ ρ.2.2.1 598 = 1
theorem ShA_keep {ρ ρ' : ao_H} (hk : ∀ x, x < 599 → ρ'.2.1 x = ρ.2.1 x) (hl : ∀ x, x < 599 → ρ'.2.2.1 x = ρ.2.2.1 x) (hf : ∀ x k, x < 599 → (x ≠ 13 ∨ k < 6 ∨ 8 < k) ∧ (x ≠ 537 ∨ k < 22 ∨ 24 < k) → ρ'.1 x k = ρ.1 x k) (h : ShA ρ) : ShA ρ' := by
  obtain ⟨a0, a1, a2, a3, a4, a5, a6, a7, a8, a9, a10, a11, a12, a13, a14, a15, a16, a17, a18, a19, a20, a21, a22, a23, a24, a25, a26, a27, a28, a29, a30, a31, a32, a33, a34, a35, a36, a37, a38, a39, a40, a41, a42, a43, a44, a45, a46, a47, a48, a49, a50, a51, a52, a53, a54, a55, a56, a57, a58, a59, a60, a61, a62, a63, a64, a65, a66, a67, a68, a69, a70, a71, a72, a73, a74, a75, a76, a77, a78, a79, a80, a81, a82, a83, a84, a85, a86, a87, a88, a89, a90, a91, a92, a93, a94, a95, a96, a97⟩ := h
  exact ⟨(hk _ (by omega)).trans a0,
    (hk _ (by omega)).trans a1,
    (hk _ (by omega)).trans a2,
    (hk _ (by omega)).trans a3,
    (hk _ (by omega)).trans a4,
    (hk _ (by omega)).trans a5,
    (hk _ (by omega)).trans a6,
    (hk _ (by omega)).trans a7,
    (hk _ (by omega)).trans a8,
    (hk _ (by omega)).trans a9,
    (hk _ (by omega)).trans a10,
    (hk _ (by omega)).trans a11,
    (hk _ (by omega)).trans a12,
    (hk _ (by omega)).trans a13,
    (hk _ (by omega)).trans a14,
    (hk _ (by omega)).trans a15,
    (hk _ (by omega)).trans a16,
    (hk _ (by omega)).trans a17,
    (hk _ (by omega)).trans a18,
    (hk _ (by omega)).trans a19,
    (hk _ (by omega)).trans a20,
    (hk _ (by omega)).trans a21,
    (hk _ (by omega)).trans a22,
    (hk _ (by omega)).trans a23,
    (hk _ (by omega)).trans a24,
    (hk _ (by omega)).trans a25,
    (hk _ (by omega)).trans a26,
    (hk _ (by omega)).trans a27,
    (hk _ (by omega)).trans a28,
    (hk _ (by omega)).trans a29,
    (hk _ (by omega)).trans a30,
    (hk _ (by omega)).trans a31,
    (hk _ (by omega)).trans a32,
    (hk _ (by omega)).trans a33,
    (hk _ (by omega)).trans a34,
    (hk _ (by omega)).trans a35,
    (hl _ (by omega)).trans a36,
    (hl _ (by omega)).trans a37,
    (hl _ (by omega)).trans a38,
    (hl _ (by omega)).trans a39,
    (hl _ (by omega)).trans a40,
    (hl _ (by omega)).trans a41,
    (hl _ (by omega)).trans a42,
    (hl _ (by omega)).trans a43,
    (hl _ (by omega)).trans a44,
    (hl _ (by omega)).trans a45,
    (hl _ (by omega)).trans a46,
    (hl _ (by omega)).trans a47,
    (hl _ (by omega)).trans a48,
    (hl _ (by omega)).trans a49,
    (hl _ (by omega)).trans a50,
    (hl _ (by omega)).trans a51,
    (hl _ (by omega)).trans a52,
    (hl _ (by omega)).trans a53,
    (hl _ (by omega)).trans a54,
    (hl _ (by omega)).trans a55,
    (hl _ (by omega)).trans a56,
    (hl _ (by omega)).trans a57,
    (hl _ (by omega)).trans a58,
    (hl _ (by omega)).trans a59,
    (hl _ (by omega)).trans a60,
    (hl _ (by omega)).trans a61,
    (hl _ (by omega)).trans a62,
    (hf _ _ (by omega) (by omega)).trans a63,
    (hf _ _ (by omega) (by omega)).trans a64,
    (hf _ _ (by omega) (by omega)).trans a65,
    (hf _ _ (by omega) (by omega)).trans a66,
    (hf _ _ (by omega) (by omega)).trans a67,
    (hf _ _ (by omega) (by omega)).trans a68,
    (hf _ _ (by omega) (by omega)).trans a69,
    (hf _ _ (by omega) (by omega)).trans a70,
    (hf _ _ (by omega) (by omega)).trans a71,
    (hf _ _ (by omega) (by omega)).trans a72,
    (hf _ _ (by omega) (by omega)).trans a73,
    (hf _ _ (by omega) (by omega)).trans a74,
    (hf _ _ (by omega) (by omega)).trans a75,
    (hf _ _ (by omega) (by omega)).trans a76,
    (hf _ _ (by omega) (by omega)).trans a77,
    (hf _ _ (by omega) (by omega)).trans a78,
    (hf _ _ (by omega) (by omega)).trans a79,
    (hf _ _ (by omega) (by omega)).trans a80,
    (hf _ _ (by omega) (by omega)).trans a81,
    (hf _ _ (by omega) (by omega)).trans a82,
    (hf _ _ (by omega) (by omega)).trans a83,
    (hf _ _ (by omega) (by omega)).trans a84,
    (hf _ _ (by omega) (by omega)).trans a85,
    (hf _ _ (by omega) (by omega)).trans a86,
    (hf _ _ (by omega) (by omega)).trans a87,
    (hf _ _ (by omega) (by omega)).trans a88,
    (hf _ _ (by omega) (by omega)).trans a89,
    (hf _ _ (by omega) (by omega)).trans a90,
    (hf _ _ (by omega) (by omega)).trans a91,
    (hf _ _ (by omega) (by omega)).trans a92,
    (hf _ _ (by omega) (by omega)).trans a93,
    (hf _ _ (by omega) (by omega)).trans a94,
    (hf _ _ (by omega) (by omega)).trans a95,
    (hf _ _ (by omega) (by omega)).trans a96,
    (hf _ _ (by omega) (by omega)).trans a97⟩
theorem ShB_keep {ρ ρ' : ao_H} (hk : ∀ x, x < 599 → ρ'.2.1 x = ρ.2.1 x) (hl : ∀ x, x < 599 → ρ'.2.2.1 x = ρ.2.2.1 x) (hf : ∀ x k, x < 599 → (x ≠ 13 ∨ k < 6 ∨ 8 < k) ∧ (x ≠ 537 ∨ k < 22 ∨ 24 < k) → ρ'.1 x k = ρ.1 x k) (h : ShB ρ) : ShB ρ' := by
  obtain ⟨a0, a1, a2, a3, a4, a5, a6, a7, a8, a9, a10, a11, a12, a13, a14, a15, a16, a17, a18, a19, a20, a21, a22, a23, a24, a25, a26, a27, a28, a29, a30, a31, a32, a33, a34, a35, a36⟩ := h
  exact ⟨fun t ht => (hf _ _ (by omega) (by omega)).trans (a0 t ht),
    fun t ht => (hk _ (by omega)).trans (a1 t ht),
    fun t ht => (hk _ (by omega)).trans (a2 t ht),
    fun t ht => (hk _ (by omega)).trans (a3 t ht),
    fun t ht => (hk _ (by omega)).trans (a4 t ht),
    fun t ht => (hk _ (by omega)).trans (a5 t ht),
    fun t ht => (hk _ (by omega)).trans (a6 t ht),
    fun t ht => (hk _ (by omega)).trans (a7 t ht),
    fun t ht => (hl _ (by omega)).trans (a8 t ht),
    fun t ht => (hl _ (by omega)).trans (a9 t ht),
    fun t ht => (hl _ (by omega)).trans (a10 t ht),
    fun t ht => (hl _ (by omega)).trans (a11 t ht),
    fun t ht => (hl _ (by omega)).trans (a12 t ht),
    fun t ht => (hl _ (by omega)).trans (a13 t ht),
    fun t ht => (hf _ _ (by omega) (by omega)).trans (a14 t ht),
    fun t ht => (hf _ _ (by omega) (by omega)).trans (a15 t ht),
    fun t ht => (hf _ _ (by omega) (by omega)).trans (a16 t ht),
    fun t ht => (hf _ _ (by omega) (by omega)).trans (a17 t ht),
    fun t ht => (hf _ _ (by omega) (by omega)).trans (a18 t ht),
    fun t ht => (hf _ _ (by omega) (by omega)).trans (a19 t ht),
    fun t ht j hj => (hf _ _ (by omega) (by omega)).trans (a20 t ht j hj),
    fun t ht j hj => (hk _ (by omega)).trans (a21 t ht j hj),
    fun t ht j hj => (hk _ (by omega)).trans (a22 t ht j hj),
    fun t ht j hj => (hk _ (by omega)).trans (a23 t ht j hj),
    fun t ht j hj => (hk _ (by omega)).trans (a24 t ht j hj),
    fun t ht j hj => (hk _ (by omega)).trans (a25 t ht j hj),
    fun t ht j hj => (hk _ (by omega)).trans (a26 t ht j hj),
    fun t ht j hj => (hl _ (by omega)).trans (a27 t ht j hj),
    fun t ht j hj => (hl _ (by omega)).trans (a28 t ht j hj),
    fun t ht j hj => (hl _ (by omega)).trans (a29 t ht j hj),
    fun t ht j hj => (hl _ (by omega)).trans (a30 t ht j hj),
    fun t ht j hj => (hl _ (by omega)).trans (a31 t ht j hj),
    fun t ht j hj => (hf _ _ (by omega) (by omega)).trans (a32 t ht j hj),
    fun t ht j hj => (hf _ _ (by omega) (by omega)).trans (a33 t ht j hj),
    fun t ht j hj => (hf _ _ (by omega) (by omega)).trans (a34 t ht j hj),
    fun t ht j hj => (hf _ _ (by omega) (by omega)).trans (a35 t ht j hj),
    fun t ht j hj => (hf _ _ (by omega) (by omega)).trans (a36 t ht j hj)⟩
theorem ShG_keep {ρ ρ' : ao_H} (hk : ∀ x, x < 599 → ρ'.2.1 x = ρ.2.1 x) (hl : ∀ x, x < 599 → ρ'.2.2.1 x = ρ.2.2.1 x) (hf : ∀ x k, x < 599 → (x ≠ 13 ∨ k < 6 ∨ 8 < k) ∧ (x ≠ 537 ∨ k < 22 ∨ 24 < k) → ρ'.1 x k = ρ.1 x k) (h : ShG ρ) : ShG ρ' := by
  obtain ⟨a0, a1, a2, a3, a4, a5, a6, a7, a8, a9, a10, a11, a12, a13, a14⟩ := h
  exact ⟨fun j hj => (hf _ _ (by omega) (by omega)).trans (a0 j hj),
    fun j hj => (hk _ (by omega)).trans (a1 j hj),
    fun j hj => (hl _ (by omega)).trans (a2 j hj),
    fun j hj => (hf _ _ (by omega) (by omega)).trans (a3 j hj),
    fun j hj => (hk _ (by omega)).trans (a4 j hj),
    fun j hj => (hl _ (by omega)).trans (a5 j hj),
    fun j hj => (hf _ _ (by omega) (by omega)).trans (a6 j hj),
    fun j hj => (hk _ (by omega)).trans (a7 j hj),
    fun j hj => (hl _ (by omega)).trans (a8 j hj),
    fun j hj => (hf _ _ (by omega) (by omega)).trans (a9 j hj),
    fun j hj => (hk _ (by omega)).trans (a10 j hj),
    fun j hj => (hl _ (by omega)).trans (a11 j hj),
    fun j hj => (hf _ _ (by omega) (by omega)).trans (a12 j hj),
    fun j hj => (hk _ (by omega)).trans (a13 j hj),
    fun j hj => (hl _ (by omega)).trans (a14 j hj)⟩
theorem ShD_keep {ρ ρ' : ao_H} (hk : ∀ x, x < 599 → ρ'.2.1 x = ρ.2.1 x) (hl : ∀ x, x < 599 → ρ'.2.2.1 x = ρ.2.2.1 x) (hf : ∀ x k, x < 599 → (x ≠ 13 ∨ k < 6 ∨ 8 < k) ∧ (x ≠ 537 ∨ k < 22 ∨ 24 < k) → ρ'.1 x k = ρ.1 x k) (h : ShD ρ) : ShD ρ' := by
  obtain ⟨a0, a1, a2, a3, a4, a5, a6, a7, a8, a9, a10, a11, a12, a13, a14, a15, a16, a17, a18, a19, a20, a21, a22, a23, a24, a25, a26, a27, a28, a29, a30, a31, a32, a33, a34, a35, a36, a37, a38, a39, a40, a41, a42, a43, a44, a45, a46, a47, a48, a49, a50, a51, a52, a53, a54, a55, a56, a57, a58, a59, a60, a61, a62, a63, a64, a65, a66, a67, a68, a69, a70, a71, a72, a73, a74, a75, a76, a77, a78, a79, a80, a81, a82, a83, a84, a85, a86, a87, a88, a89, a90, a91, a92, a93, a94, a95, a96, a97, a98, a99, a100, a101, a102, a103, a104, a105, a106, a107, a108, a109, a110, a111, a112, a113, a114, a115, a116, a117, a118, a119, a120, a121, a122, a123, a124, a125, a126, a127, a128, a129, a130, a131, a132, a133, a134, a135, a136, a137, a138, a139, a140, a141, a142, a143, a144, a145, a146, a147, a148, a149, a150, a151, a152, a153, a154, a155, a156, a157, a158, a159, a160, a161, a162, a163, a164, a165, a166, a167, a168⟩ := h
  exact ⟨(hk _ (by omega)).trans a0,
    (hk _ (by omega)).trans a1,
    (hk _ (by omega)).trans a2,
    (hk _ (by omega)).trans a3,
    (hk _ (by omega)).trans a4,
    (hk _ (by omega)).trans a5,
    (hk _ (by omega)).trans a6,
    (hk _ (by omega)).trans a7,
    (hk _ (by omega)).trans a8,
    (hk _ (by omega)).trans a9,
    (hk _ (by omega)).trans a10,
    (hk _ (by omega)).trans a11,
    (hk _ (by omega)).trans a12,
    (hk _ (by omega)).trans a13,
    (hk _ (by omega)).trans a14,
    (hk _ (by omega)).trans a15,
    (hk _ (by omega)).trans a16,
    (hk _ (by omega)).trans a17,
    (hk _ (by omega)).trans a18,
    (hk _ (by omega)).trans a19,
    (hk _ (by omega)).trans a20,
    (hk _ (by omega)).trans a21,
    (hk _ (by omega)).trans a22,
    (hk _ (by omega)).trans a23,
    (hk _ (by omega)).trans a24,
    (hk _ (by omega)).trans a25,
    (hk _ (by omega)).trans a26,
    (hk _ (by omega)).trans a27,
    (hk _ (by omega)).trans a28,
    (hk _ (by omega)).trans a29,
    (hk _ (by omega)).trans a30,
    (hk _ (by omega)).trans a31,
    (hk _ (by omega)).trans a32,
    (hk _ (by omega)).trans a33,
    (hk _ (by omega)).trans a34,
    (hk _ (by omega)).trans a35,
    (hk _ (by omega)).trans a36,
    (hk _ (by omega)).trans a37,
    (hk _ (by omega)).trans a38,
    (hk _ (by omega)).trans a39,
    (hk _ (by omega)).trans a40,
    (hk _ (by omega)).trans a41,
    (hk _ (by omega)).trans a42,
    (hk _ (by omega)).trans a43,
    (hk _ (by omega)).trans a44,
    (hk _ (by omega)).trans a45,
    (hk _ (by omega)).trans a46,
    (hk _ (by omega)).trans a47,
    (hk _ (by omega)).trans a48,
    (hk _ (by omega)).trans a49,
    (hk _ (by omega)).trans a50,
    (hk _ (by omega)).trans a51,
    (hk _ (by omega)).trans a52,
    (hk _ (by omega)).trans a53,
    (hk _ (by omega)).trans a54,
    (hk _ (by omega)).trans a55,
    (hk _ (by omega)).trans a56,
    (hl _ (by omega)).trans a57,
    (hl _ (by omega)).trans a58,
    (hl _ (by omega)).trans a59,
    (hl _ (by omega)).trans a60,
    (hl _ (by omega)).trans a61,
    (hl _ (by omega)).trans a62,
    (hl _ (by omega)).trans a63,
    (hl _ (by omega)).trans a64,
    (hl _ (by omega)).trans a65,
    (hl _ (by omega)).trans a66,
    (hl _ (by omega)).trans a67,
    (hl _ (by omega)).trans a68,
    (hl _ (by omega)).trans a69,
    (hl _ (by omega)).trans a70,
    (hl _ (by omega)).trans a71,
    (hl _ (by omega)).trans a72,
    (hl _ (by omega)).trans a73,
    (hl _ (by omega)).trans a74,
    (hl _ (by omega)).trans a75,
    (hl _ (by omega)).trans a76,
    (hl _ (by omega)).trans a77,
    (hl _ (by omega)).trans a78,
    (hl _ (by omega)).trans a79,
    (hl _ (by omega)).trans a80,
    (hl _ (by omega)).trans a81,
    (hl _ (by omega)).trans a82,
    (hl _ (by omega)).trans a83,
    (hl _ (by omega)).trans a84,
    (hl _ (by omega)).trans a85,
    (hl _ (by omega)).trans a86,
    (hl _ (by omega)).trans a87,
    (hl _ (by omega)).trans a88,
    (hl _ (by omega)).trans a89,
    (hl _ (by omega)).trans a90,
    (hl _ (by omega)).trans a91,
    (hl _ (by omega)).trans a92,
    (hl _ (by omega)).trans a93,
    (hl _ (by omega)).trans a94,
    (hl _ (by omega)).trans a95,
    (hl _ (by omega)).trans a96,
    (hl _ (by omega)).trans a97,
    (hl _ (by omega)).trans a98,
    (hl _ (by omega)).trans a99,
    (hl _ (by omega)).trans a100,
    (hl _ (by omega)).trans a101,
    (hl _ (by omega)).trans a102,
    (hl _ (by omega)).trans a103,
    (hl _ (by omega)).trans a104,
    (hl _ (by omega)).trans a105,
    (hl _ (by omega)).trans a106,
    (hl _ (by omega)).trans a107,
    (hl _ (by omega)).trans a108,
    (hl _ (by omega)).trans a109,
    (hl _ (by omega)).trans a110,
    (hl _ (by omega)).trans a111,
    (hl _ (by omega)).trans a112,
    (hf _ _ (by omega) (by omega)).trans a113,
    (hf _ _ (by omega) (by omega)).trans a114,
    (hf _ _ (by omega) (by omega)).trans a115,
    (hf _ _ (by omega) (by omega)).trans a116,
    (hf _ _ (by omega) (by omega)).trans a117,
    (hf _ _ (by omega) (by omega)).trans a118,
    (hf _ _ (by omega) (by omega)).trans a119,
    (hf _ _ (by omega) (by omega)).trans a120,
    (hf _ _ (by omega) (by omega)).trans a121,
    (hf _ _ (by omega) (by omega)).trans a122,
    (hf _ _ (by omega) (by omega)).trans a123,
    (hf _ _ (by omega) (by omega)).trans a124,
    (hf _ _ (by omega) (by omega)).trans a125,
    (hf _ _ (by omega) (by omega)).trans a126,
    (hf _ _ (by omega) (by omega)).trans a127,
    (hf _ _ (by omega) (by omega)).trans a128,
    (hf _ _ (by omega) (by omega)).trans a129,
    (hf _ _ (by omega) (by omega)).trans a130,
    (hf _ _ (by omega) (by omega)).trans a131,
    (hf _ _ (by omega) (by omega)).trans a132,
    (hf _ _ (by omega) (by omega)).trans a133,
    (hf _ _ (by omega) (by omega)).trans a134,
    (hf _ _ (by omega) (by omega)).trans a135,
    (hf _ _ (by omega) (by omega)).trans a136,
    (hf _ _ (by omega) (by omega)).trans a137,
    (hf _ _ (by omega) (by omega)).trans a138,
    (hf _ _ (by omega) (by omega)).trans a139,
    (hf _ _ (by omega) (by omega)).trans a140,
    (hf _ _ (by omega) (by omega)).trans a141,
    (hf _ _ (by omega) (by omega)).trans a142,
    (hf _ _ (by omega) (by omega)).trans a143,
    (hf _ _ (by omega) (by omega)).trans a144,
    (hf _ _ (by omega) (by omega)).trans a145,
    (hf _ _ (by omega) (by omega)).trans a146,
    (hf _ _ (by omega) (by omega)).trans a147,
    (hf _ _ (by omega) (by omega)).trans a148,
    (hf _ _ (by omega) (by omega)).trans a149,
    (hf _ _ (by omega) (by omega)).trans a150,
    (hf _ _ (by omega) (by omega)).trans a151,
    (hf _ _ (by omega) (by omega)).trans a152,
    (hf _ _ (by omega) (by omega)).trans a153,
    (hf _ _ (by omega) (by omega)).trans a154,
    (hf _ _ (by omega) (by omega)).trans a155,
    (hf _ _ (by omega) (by omega)).trans a156,
    (hf _ _ (by omega) (by omega)).trans a157,
    (hf _ _ (by omega) (by omega)).trans a158,
    (hf _ _ (by omega) (by omega)).trans a159,
    (hf _ _ (by omega) (by omega)).trans a160,
    (hf _ _ (by omega) (by omega)).trans a161,
    (hf _ _ (by omega) (by omega)).trans a162,
    (hf _ _ (by omega) (by omega)).trans a163,
    (hf _ _ (by omega) (by omega)).trans a164,
    (hf _ _ (by omega) (by omega)).trans a165,
    (hf _ _ (by omega) (by omega)).trans a166,
    (hf _ _ (by omega) (by omega)).trans a167,
    (hf _ _ (by omega) (by omega)).trans a168⟩
