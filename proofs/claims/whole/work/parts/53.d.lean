/-! the law's own instructions, 4 -/
theorem dL_law__1554 : decode cL_law_ 1554 = .ok (.iload 4, 2) := by decide +kernel
theorem dL_law__1556 : decode cL_law_ 1556 = .ok (.iconst 2, 1) := by decide +kernel
theorem dL_law__1557 : decode cL_law_ 1557 = .ok (.iadd, 1) := by decide +kernel
theorem dL_law__1558 : decode cL_law_ 1558 = .ok (.iaload, 1) := by decide +kernel
theorem dL_law__1559 : decode cL_law_ 1559 = .ok (.aload_n 3, 1) := by decide +kernel
theorem dL_law__1560 : decode cL_law_ 1560 = .ok (.invokestatic 206, 3) := by decide +kernel
theorem dL_law__1563 : decode cL_law_ 1563 = .ok (.istore 5, 2) := by decide +kernel
theorem dL_law__1565 : decode cL_law_ 1565 = .ok (.aload_n 2, 1) := by decide +kernel
theorem dL_law__1566 : decode cL_law_ 1566 = .ok (.aload_n 0, 1) := by decide +kernel
theorem dL_law__1567 : decode cL_law_ 1567 = .ok (.iload 4, 2) := by decide +kernel
theorem dL_law__1569 : decode cL_law_ 1569 = .ok (.iconst 1, 1) := by decide +kernel
theorem dL_law__1570 : decode cL_law_ 1570 = .ok (.iadd, 1) := by decide +kernel
theorem dL_law__1571 : decode cL_law_ 1571 = .ok (.iaload, 1) := by decide +kernel
theorem dL_law__1572 : decode cL_law_ 1572 = .ok (.aload_n 0, 1) := by decide +kernel
theorem dL_law__1573 : decode cL_law_ 1573 = .ok (.iload 4, 2) := by decide +kernel
theorem dL_law__1575 : decode cL_law_ 1575 = .ok (.iconst 2, 1) := by decide +kernel
theorem dL_law__1576 : decode cL_law_ 1576 = .ok (.iadd, 1) := by decide +kernel
theorem dL_law__1577 : decode cL_law_ 1577 = .ok (.iaload, 1) := by decide +kernel
theorem dL_law__1578 : decode cL_law_ 1578 = .ok (.invokevirtual 208, 3) := by decide +kernel
theorem dL_law__1581 : decode cL_law_ 1581 = .ok (.istore 6, 2) := by decide +kernel
theorem dL_law__1583 : decode cL_law_ 1583 = .ok (.aload_n 2, 1) := by decide +kernel
theorem dL_law__1584 : decode cL_law_ 1584 = .ok (.invokevirtual 149, 3) := by decide +kernel
theorem dL_law__1587 : decode cL_law_ 1587 = .ok (.iload 5, 2) := by decide +kernel
theorem dL_law__1589 : decode cL_law_ 1589 = .ok (.if_icmp .eq 5, 3) := by decide +kernel
theorem dL_law__1592 : decode cL_law_ 1592 = .ok (.iconst 0, 1) := by decide +kernel
theorem dL_law__1593 : decode cL_law_ 1593 = .ok (.ireturn, 1) := by decide +kernel
theorem dL_law__1594 : decode cL_law_ 1594 = .ok (.iload 5, 2) := by decide +kernel
theorem dL_law__1596 : decode cL_law_ 1596 = .ok (.ifCond .ne 15, 3) := by decide +kernel
theorem dL_law__1599 : decode cL_law_ 1599 = .ok (.aload_n 3, 1) := by decide +kernel
theorem dL_law__1600 : decode cL_law_ 1600 = .ok (.iconst 0, 1) := by decide +kernel
theorem dL_law__1601 : decode cL_law_ 1601 = .ok (.laload, 1) := by decide +kernel
theorem dL_law__1602 : decode cL_law_ 1602 = .ok (.iload 6, 2) := by decide +kernel
theorem dL_law__1604 : decode cL_law_ 1604 = .ok (.i2l, 1) := by decide +kernel
theorem dL_law__1605 : decode cL_law_ 1605 = .ok (.lcmp, 1) := by decide +kernel
theorem dL_law__1606 : decode cL_law_ 1606 = .ok (.ifCond .eq 5, 3) := by decide +kernel
theorem dL_law__1609 : decode cL_law_ 1609 = .ok (.iconst 0, 1) := by decide +kernel
theorem dL_law__1610 : decode cL_law_ 1610 = .ok (.ireturn, 1) := by decide +kernel
theorem dL_law__1611 : decode cL_law_ 1611 = .ok (.goto 1334, 3) := by decide +kernel
theorem dL_law__1614 : decode cL_law_ 1614 = .ok (.aload_n 1, 1) := by decide +kernel
theorem dL_law__1615 : decode cL_law_ 1615 = .ok (.aload_n 0, 1) := by decide +kernel
theorem dL_law__1616 : decode cL_law_ 1616 = .ok (.iload 4, 2) := by decide +kernel
theorem dL_law__1618 : decode cL_law_ 1618 = .ok (.iconst 1, 1) := by decide +kernel
theorem dL_law__1619 : decode cL_law_ 1619 = .ok (.iadd, 1) := by decide +kernel
theorem dL_law__1620 : decode cL_law_ 1620 = .ok (.iaload, 1) := by decide +kernel
theorem dL_law__1621 : decode cL_law_ 1621 = .ok (.aload_n 0, 1) := by decide +kernel
theorem dL_law__1622 : decode cL_law_ 1622 = .ok (.iload 4, 2) := by decide +kernel
theorem dL_law__1624 : decode cL_law_ 1624 = .ok (.iconst 2, 1) := by decide +kernel
theorem dL_law__1625 : decode cL_law_ 1625 = .ok (.iadd, 1) := by decide +kernel
theorem dL_law__1626 : decode cL_law_ 1626 = .ok (.iaload, 1) := by decide +kernel
theorem dL_law__1627 : decode cL_law_ 1627 = .ok (.aload_n 3, 1) := by decide +kernel
theorem dL_law__1628 : decode cL_law_ 1628 = .ok (.invokestatic 209, 3) := by decide +kernel
theorem dL_law__1631 : decode cL_law_ 1631 = .ok (.istore 5, 2) := by decide +kernel
theorem dL_law__1633 : decode cL_law_ 1633 = .ok (.aload_n 2, 1) := by decide +kernel
theorem dL_law__1634 : decode cL_law_ 1634 = .ok (.aload_n 0, 1) := by decide +kernel
theorem dL_law__1635 : decode cL_law_ 1635 = .ok (.iload 4, 2) := by decide +kernel
theorem dL_law__1637 : decode cL_law_ 1637 = .ok (.iconst 1, 1) := by decide +kernel
theorem dL_law__1638 : decode cL_law_ 1638 = .ok (.iadd, 1) := by decide +kernel
theorem dL_law__1639 : decode cL_law_ 1639 = .ok (.iaload, 1) := by decide +kernel
theorem dL_law__1640 : decode cL_law_ 1640 = .ok (.aload_n 0, 1) := by decide +kernel
theorem dL_law__1641 : decode cL_law_ 1641 = .ok (.iload 4, 2) := by decide +kernel
theorem dL_law__1643 : decode cL_law_ 1643 = .ok (.iconst 2, 1) := by decide +kernel
theorem dL_law__1644 : decode cL_law_ 1644 = .ok (.iadd, 1) := by decide +kernel
theorem dL_law__1645 : decode cL_law_ 1645 = .ok (.iaload, 1) := by decide +kernel
theorem dL_law__1646 : decode cL_law_ 1646 = .ok (.invokevirtual 211, 3) := by decide +kernel
theorem dL_law__1649 : decode cL_law_ 1649 = .ok (.istore 6, 2) := by decide +kernel
theorem dL_law__1651 : decode cL_law_ 1651 = .ok (.aload_n 2, 1) := by decide +kernel
theorem dL_law__1652 : decode cL_law_ 1652 = .ok (.invokevirtual 149, 3) := by decide +kernel
theorem dL_law__1655 : decode cL_law_ 1655 = .ok (.iload 5, 2) := by decide +kernel
theorem dL_law__1657 : decode cL_law_ 1657 = .ok (.if_icmp .eq 5, 3) := by decide +kernel
theorem dL_law__1660 : decode cL_law_ 1660 = .ok (.iconst 0, 1) := by decide +kernel
theorem dL_law__1661 : decode cL_law_ 1661 = .ok (.ireturn, 1) := by decide +kernel
theorem dL_law__1662 : decode cL_law_ 1662 = .ok (.iload 5, 2) := by decide +kernel
theorem dL_law__1664 : decode cL_law_ 1664 = .ok (.ifCond .ne 15, 3) := by decide +kernel
theorem dL_law__1667 : decode cL_law_ 1667 = .ok (.aload_n 3, 1) := by decide +kernel
theorem dL_law__1668 : decode cL_law_ 1668 = .ok (.iconst 0, 1) := by decide +kernel
theorem dL_law__1669 : decode cL_law_ 1669 = .ok (.laload, 1) := by decide +kernel
theorem dL_law__1670 : decode cL_law_ 1670 = .ok (.iload 6, 2) := by decide +kernel
theorem dL_law__1672 : decode cL_law_ 1672 = .ok (.i2l, 1) := by decide +kernel
theorem dL_law__1673 : decode cL_law_ 1673 = .ok (.lcmp, 1) := by decide +kernel
theorem dL_law__1674 : decode cL_law_ 1674 = .ok (.ifCond .eq 5, 3) := by decide +kernel
theorem dL_law__1677 : decode cL_law_ 1677 = .ok (.iconst 0, 1) := by decide +kernel
theorem dL_law__1678 : decode cL_law_ 1678 = .ok (.ireturn, 1) := by decide +kernel
theorem dL_law__1679 : decode cL_law_ 1679 = .ok (.goto 1266, 3) := by decide +kernel
theorem dL_law__1682 : decode cL_law_ 1682 = .ok (.aload_n 1, 1) := by decide +kernel
theorem dL_law__1683 : decode cL_law_ 1683 = .ok (.aload_n 0, 1) := by decide +kernel
theorem dL_law__1684 : decode cL_law_ 1684 = .ok (.iload 4, 2) := by decide +kernel
theorem dL_law__1686 : decode cL_law_ 1686 = .ok (.iconst 1, 1) := by decide +kernel
theorem dL_law__1687 : decode cL_law_ 1687 = .ok (.iadd, 1) := by decide +kernel
theorem dL_law__1688 : decode cL_law_ 1688 = .ok (.iaload, 1) := by decide +kernel
theorem dL_law__1689 : decode cL_law_ 1689 = .ok (.aload_n 3, 1) := by decide +kernel
theorem dL_law__1690 : decode cL_law_ 1690 = .ok (.invokestatic 212, 3) := by decide +kernel
theorem dL_law__1693 : decode cL_law_ 1693 = .ok (.istore 5, 2) := by decide +kernel
theorem dL_law__1695 : decode cL_law_ 1695 = .ok (.aload_n 2, 1) := by decide +kernel
theorem dL_law__1696 : decode cL_law_ 1696 = .ok (.aload_n 0, 1) := by decide +kernel
theorem dL_law__1697 : decode cL_law_ 1697 = .ok (.iload 4, 2) := by decide +kernel
theorem dL_law__1699 : decode cL_law_ 1699 = .ok (.iconst 1, 1) := by decide +kernel
theorem dL_law__1700 : decode cL_law_ 1700 = .ok (.iadd, 1) := by decide +kernel
theorem dL_law__1701 : decode cL_law_ 1701 = .ok (.iaload, 1) := by decide +kernel
theorem dL_law__1702 : decode cL_law_ 1702 = .ok (.invokevirtual 214, 3) := by decide +kernel
theorem dL_law__1705 : decode cL_law_ 1705 = .ok (.istore 6, 2) := by decide +kernel
theorem dL_law__1707 : decode cL_law_ 1707 = .ok (.aload_n 2, 1) := by decide +kernel
theorem dL_law__1708 : decode cL_law_ 1708 = .ok (.invokevirtual 149, 3) := by decide +kernel
theorem dL_law__1711 : decode cL_law_ 1711 = .ok (.iload 5, 2) := by decide +kernel
theorem dL_law__1713 : decode cL_law_ 1713 = .ok (.if_icmp .eq 5, 3) := by decide +kernel
theorem dL_law__1716 : decode cL_law_ 1716 = .ok (.iconst 0, 1) := by decide +kernel
theorem dL_law__1717 : decode cL_law_ 1717 = .ok (.ireturn, 1) := by decide +kernel
theorem dL_law__1718 : decode cL_law_ 1718 = .ok (.iload 5, 2) := by decide +kernel
theorem dL_law__1720 : decode cL_law_ 1720 = .ok (.ifCond .ne 15, 3) := by decide +kernel
theorem dL_law__1723 : decode cL_law_ 1723 = .ok (.aload_n 3, 1) := by decide +kernel
theorem dL_law__1724 : decode cL_law_ 1724 = .ok (.iconst 0, 1) := by decide +kernel
theorem dL_law__1725 : decode cL_law_ 1725 = .ok (.laload, 1) := by decide +kernel
theorem dL_law__1726 : decode cL_law_ 1726 = .ok (.iload 6, 2) := by decide +kernel
theorem dL_law__1728 : decode cL_law_ 1728 = .ok (.i2l, 1) := by decide +kernel
theorem dL_law__1729 : decode cL_law_ 1729 = .ok (.lcmp, 1) := by decide +kernel
theorem dL_law__1730 : decode cL_law_ 1730 = .ok (.ifCond .eq 5, 3) := by decide +kernel
theorem dL_law__1733 : decode cL_law_ 1733 = .ok (.iconst 0, 1) := by decide +kernel
theorem dL_law__1734 : decode cL_law_ 1734 = .ok (.ireturn, 1) := by decide +kernel
theorem dL_law__1735 : decode cL_law_ 1735 = .ok (.goto 1210, 3) := by decide +kernel
theorem dL_law__1738 : decode cL_law_ 1738 = .ok (.aload_n 1, 1) := by decide +kernel
theorem dL_law__1739 : decode cL_law_ 1739 = .ok (.invokevirtual 215, 3) := by decide +kernel
theorem dL_law__1742 : decode cL_law_ 1742 = .ok (.aload_n 2, 1) := by decide +kernel
theorem dL_law__1743 : decode cL_law_ 1743 = .ok (.invokevirtual 218, 3) := by decide +kernel
theorem dL_law__1746 : decode cL_law_ 1746 = .ok (.if_icmp .eq 1199, 3) := by decide +kernel
theorem dL_law__1749 : decode cL_law_ 1749 = .ok (.iconst 0, 1) := by decide +kernel
theorem dL_law__1750 : decode cL_law_ 1750 = .ok (.ireturn, 1) := by decide +kernel
theorem dL_law__1751 : decode cL_law_ 1751 = .ok (.aload_n 1, 1) := by decide +kernel
theorem dL_law__1752 : decode cL_law_ 1752 = .ok (.invokevirtual 219, 3) := by decide +kernel
theorem dL_law__1755 : decode cL_law_ 1755 = .ok (.aload_n 2, 1) := by decide +kernel
theorem dL_law__1756 : decode cL_law_ 1756 = .ok (.invokevirtual 222, 3) := by decide +kernel
theorem dL_law__1759 : decode cL_law_ 1759 = .ok (.if_icmp .eq 1186, 3) := by decide +kernel
theorem dL_law__1762 : decode cL_law_ 1762 = .ok (.iconst 0, 1) := by decide +kernel
theorem dL_law__1763 : decode cL_law_ 1763 = .ok (.ireturn, 1) := by decide +kernel
theorem dL_law__1764 : decode cL_law_ 1764 = .ok (.aload_n 1, 1) := by decide +kernel
theorem dL_law__1765 : decode cL_law_ 1765 = .ok (.aload_n 0, 1) := by decide +kernel
theorem dL_law__1766 : decode cL_law_ 1766 = .ok (.iload 4, 2) := by decide +kernel
theorem dL_law__1768 : decode cL_law_ 1768 = .ok (.iconst 1, 1) := by decide +kernel
theorem dL_law__1769 : decode cL_law_ 1769 = .ok (.iadd, 1) := by decide +kernel
theorem dL_law__1770 : decode cL_law_ 1770 = .ok (.iaload, 1) := by decide +kernel
theorem dL_law__1771 : decode cL_law_ 1771 = .ok (.aload_n 3, 1) := by decide +kernel
theorem dL_law__1772 : decode cL_law_ 1772 = .ok (.invokestatic 223, 3) := by decide +kernel
theorem dL_law__1775 : decode cL_law_ 1775 = .ok (.istore 5, 2) := by decide +kernel
theorem dL_law__1777 : decode cL_law_ 1777 = .ok (.aload_n 2, 1) := by decide +kernel
theorem dL_law__1778 : decode cL_law_ 1778 = .ok (.aload_n 0, 1) := by decide +kernel
theorem dL_law__1779 : decode cL_law_ 1779 = .ok (.iload 4, 2) := by decide +kernel
theorem dL_law__1781 : decode cL_law_ 1781 = .ok (.iconst 1, 1) := by decide +kernel
theorem dL_law__1782 : decode cL_law_ 1782 = .ok (.iadd, 1) := by decide +kernel
theorem dL_law__1783 : decode cL_law_ 1783 = .ok (.iaload, 1) := by decide +kernel
theorem dL_law__1784 : decode cL_law_ 1784 = .ok (.invokevirtual 225, 3) := by decide +kernel
theorem dL_law__1787 : decode cL_law_ 1787 = .ok (.istore 6, 2) := by decide +kernel
theorem dL_law__1789 : decode cL_law_ 1789 = .ok (.aload_n 2, 1) := by decide +kernel
theorem dL_law__1790 : decode cL_law_ 1790 = .ok (.invokevirtual 149, 3) := by decide +kernel
theorem dL_law__1793 : decode cL_law_ 1793 = .ok (.iload 5, 2) := by decide +kernel
theorem dL_law__1795 : decode cL_law_ 1795 = .ok (.if_icmp .eq 5, 3) := by decide +kernel
theorem dL_law__1798 : decode cL_law_ 1798 = .ok (.iconst 0, 1) := by decide +kernel
theorem dL_law__1799 : decode cL_law_ 1799 = .ok (.ireturn, 1) := by decide +kernel
theorem dL_law__1800 : decode cL_law_ 1800 = .ok (.iload 5, 2) := by decide +kernel
theorem dL_law__1802 : decode cL_law_ 1802 = .ok (.ifCond .ne 15, 3) := by decide +kernel
theorem dL_law__1805 : decode cL_law_ 1805 = .ok (.aload_n 3, 1) := by decide +kernel
theorem dL_law__1806 : decode cL_law_ 1806 = .ok (.iconst 0, 1) := by decide +kernel
theorem dL_law__1807 : decode cL_law_ 1807 = .ok (.laload, 1) := by decide +kernel
theorem dL_law__1808 : decode cL_law_ 1808 = .ok (.iload 6, 2) := by decide +kernel
theorem dL_law__1810 : decode cL_law_ 1810 = .ok (.i2l, 1) := by decide +kernel
theorem dL_law__1811 : decode cL_law_ 1811 = .ok (.lcmp, 1) := by decide +kernel
theorem dL_law__1812 : decode cL_law_ 1812 = .ok (.ifCond .eq 5, 3) := by decide +kernel
theorem dL_law__1815 : decode cL_law_ 1815 = .ok (.iconst 0, 1) := by decide +kernel
theorem dL_law__1816 : decode cL_law_ 1816 = .ok (.ireturn, 1) := by decide +kernel
theorem dL_law__1817 : decode cL_law_ 1817 = .ok (.goto 1128, 3) := by decide +kernel
theorem dL_law__1820 : decode cL_law_ 1820 = .ok (.aload_n 1, 1) := by decide +kernel
theorem dL_law__1821 : decode cL_law_ 1821 = .ok (.aload_n 0, 1) := by decide +kernel
theorem dL_law__1822 : decode cL_law_ 1822 = .ok (.iload 4, 2) := by decide +kernel
theorem dL_law__1824 : decode cL_law_ 1824 = .ok (.iconst 1, 1) := by decide +kernel
theorem dL_law__1825 : decode cL_law_ 1825 = .ok (.iadd, 1) := by decide +kernel
theorem dL_law__1826 : decode cL_law_ 1826 = .ok (.iaload, 1) := by decide +kernel
theorem dL_law__1827 : decode cL_law_ 1827 = .ok (.aload_n 0, 1) := by decide +kernel
theorem dL_law__1828 : decode cL_law_ 1828 = .ok (.iload 4, 2) := by decide +kernel
theorem dL_law__1830 : decode cL_law_ 1830 = .ok (.iconst 2, 1) := by decide +kernel
theorem dL_law__1831 : decode cL_law_ 1831 = .ok (.iadd, 1) := by decide +kernel
theorem dL_law__1832 : decode cL_law_ 1832 = .ok (.iaload, 1) := by decide +kernel
theorem dL_law__1833 : decode cL_law_ 1833 = .ok (.aload_n 3, 1) := by decide +kernel
theorem dL_law__1834 : decode cL_law_ 1834 = .ok (.invokestatic 226, 3) := by decide +kernel
theorem dL_law__1837 : decode cL_law_ 1837 = .ok (.istore 5, 2) := by decide +kernel
theorem dL_law__1839 : decode cL_law_ 1839 = .ok (.aload_n 2, 1) := by decide +kernel
theorem dL_law__1840 : decode cL_law_ 1840 = .ok (.aload_n 0, 1) := by decide +kernel
theorem dL_law__1841 : decode cL_law_ 1841 = .ok (.iload 4, 2) := by decide +kernel
theorem dL_law__1843 : decode cL_law_ 1843 = .ok (.iconst 1, 1) := by decide +kernel
theorem dL_law__1844 : decode cL_law_ 1844 = .ok (.iadd, 1) := by decide +kernel
theorem dL_law__1845 : decode cL_law_ 1845 = .ok (.iaload, 1) := by decide +kernel
theorem dL_law__1846 : decode cL_law_ 1846 = .ok (.aload_n 0, 1) := by decide +kernel
theorem dL_law__1847 : decode cL_law_ 1847 = .ok (.iload 4, 2) := by decide +kernel
theorem dL_law__1849 : decode cL_law_ 1849 = .ok (.iconst 2, 1) := by decide +kernel
theorem dL_law__1850 : decode cL_law_ 1850 = .ok (.iadd, 1) := by decide +kernel
theorem dL_law__1851 : decode cL_law_ 1851 = .ok (.iaload, 1) := by decide +kernel
theorem dL_law__1852 : decode cL_law_ 1852 = .ok (.invokevirtual 228, 3) := by decide +kernel
theorem dL_law__1855 : decode cL_law_ 1855 = .ok (.istore 6, 2) := by decide +kernel
theorem dL_law__1857 : decode cL_law_ 1857 = .ok (.aload_n 2, 1) := by decide +kernel
theorem dL_law__1858 : decode cL_law_ 1858 = .ok (.invokevirtual 149, 3) := by decide +kernel
theorem dL_law__1861 : decode cL_law_ 1861 = .ok (.iload 5, 2) := by decide +kernel
theorem dL_law__1863 : decode cL_law_ 1863 = .ok (.if_icmp .eq 5, 3) := by decide +kernel
theorem dL_law__1866 : decode cL_law_ 1866 = .ok (.iconst 0, 1) := by decide +kernel
theorem dL_law__1867 : decode cL_law_ 1867 = .ok (.ireturn, 1) := by decide +kernel
theorem dL_law__1868 : decode cL_law_ 1868 = .ok (.iload 5, 2) := by decide +kernel
theorem dL_law__1870 : decode cL_law_ 1870 = .ok (.ifCond .ne 22, 3) := by decide +kernel
theorem dL_law__1873 : decode cL_law_ 1873 = .ok (.aload_n 3, 1) := by decide +kernel
theorem dL_law__1874 : decode cL_law_ 1874 = .ok (.iconst 0, 1) := by decide +kernel
theorem dL_law__1875 : decode cL_law_ 1875 = .ok (.laload, 1) := by decide +kernel
theorem dL_law__1876 : decode cL_law_ 1876 = .ok (.iload 6, 2) := by decide +kernel
theorem dL_law__1878 : decode cL_law_ 1878 = .ok (.ifCond .eq 7, 3) := by decide +kernel
theorem dL_law__1881 : decode cL_law_ 1881 = .ok (.lconst 1, 1) := by decide +kernel
theorem dL_law__1882 : decode cL_law_ 1882 = .ok (.goto 4, 3) := by decide +kernel
theorem dL_law__1885 : decode cL_law_ 1885 = .ok (.lconst 0, 1) := by decide +kernel
theorem dL_law__1886 : decode cL_law_ 1886 = .ok (.lcmp, 1) := by decide +kernel
theorem dL_law__1887 : decode cL_law_ 1887 = .ok (.ifCond .eq 5, 3) := by decide +kernel
theorem dL_law__1890 : decode cL_law_ 1890 = .ok (.iconst 0, 1) := by decide +kernel
theorem dL_law__1891 : decode cL_law_ 1891 = .ok (.ireturn, 1) := by decide +kernel
theorem dL_law__1892 : decode cL_law_ 1892 = .ok (.goto 1053, 3) := by decide +kernel
theorem dL_law__1895 : decode cL_law_ 1895 = .ok (.aload_n 1, 1) := by decide +kernel
theorem dL_law__1896 : decode cL_law_ 1896 = .ok (.aload_n 0, 1) := by decide +kernel
theorem dL_law__1897 : decode cL_law_ 1897 = .ok (.iload 4, 2) := by decide +kernel
theorem dL_law__1899 : decode cL_law_ 1899 = .ok (.iconst 1, 1) := by decide +kernel
theorem dL_law__1900 : decode cL_law_ 1900 = .ok (.iadd, 1) := by decide +kernel
theorem dL_law__1901 : decode cL_law_ 1901 = .ok (.iaload, 1) := by decide +kernel
theorem dL_law__1902 : decode cL_law_ 1902 = .ok (.aload_n 0, 1) := by decide +kernel
theorem dL_law__1903 : decode cL_law_ 1903 = .ok (.iload 4, 2) := by decide +kernel
theorem dL_law__1905 : decode cL_law_ 1905 = .ok (.iconst 2, 1) := by decide +kernel
theorem dL_law__1906 : decode cL_law_ 1906 = .ok (.iadd, 1) := by decide +kernel
theorem dL_law__1907 : decode cL_law_ 1907 = .ok (.iaload, 1) := by decide +kernel
theorem dL_law__1908 : decode cL_law_ 1908 = .ok (.ifCond .eq 7, 3) := by decide +kernel
theorem dL_law__1911 : decode cL_law_ 1911 = .ok (.iconst 1, 1) := by decide +kernel
theorem dL_law__1912 : decode cL_law_ 1912 = .ok (.goto 4, 3) := by decide +kernel
theorem dL_law__1915 : decode cL_law_ 1915 = .ok (.iconst 0, 1) := by decide +kernel
theorem dL_law__1916 : decode cL_law_ 1916 = .ok (.aload_n 3, 1) := by decide +kernel
theorem dL_law__1917 : decode cL_law_ 1917 = .ok (.invokestatic 229, 3) := by decide +kernel
theorem dL_law__1920 : decode cL_law_ 1920 = .ok (.istore 5, 2) := by decide +kernel
theorem dL_law__1922 : decode cL_law_ 1922 = .ok (.aload_n 2, 1) := by decide +kernel
theorem dL_law__1923 : decode cL_law_ 1923 = .ok (.aload_n 0, 1) := by decide +kernel
theorem dL_law__1924 : decode cL_law_ 1924 = .ok (.iload 4, 2) := by decide +kernel
theorem dL_law__1926 : decode cL_law_ 1926 = .ok (.iconst 1, 1) := by decide +kernel
theorem dL_law__1927 : decode cL_law_ 1927 = .ok (.iadd, 1) := by decide +kernel
theorem dL_law__1928 : decode cL_law_ 1928 = .ok (.iaload, 1) := by decide +kernel
theorem dL_law__1929 : decode cL_law_ 1929 = .ok (.aload_n 0, 1) := by decide +kernel
theorem dL_law__1930 : decode cL_law_ 1930 = .ok (.iload 4, 2) := by decide +kernel
theorem dL_law__1932 : decode cL_law_ 1932 = .ok (.iconst 2, 1) := by decide +kernel
theorem dL_law__1933 : decode cL_law_ 1933 = .ok (.iadd, 1) := by decide +kernel
theorem dL_law__1934 : decode cL_law_ 1934 = .ok (.iaload, 1) := by decide +kernel
theorem dL_law__1935 : decode cL_law_ 1935 = .ok (.ifCond .eq 7, 3) := by decide +kernel
theorem dL_law__1938 : decode cL_law_ 1938 = .ok (.iconst 1, 1) := by decide +kernel
theorem dL_law__1939 : decode cL_law_ 1939 = .ok (.goto 4, 3) := by decide +kernel
theorem dL_law__1942 : decode cL_law_ 1942 = .ok (.iconst 0, 1) := by decide +kernel
theorem dL_law__1943 : decode cL_law_ 1943 = .ok (.invokevirtual 232, 3) := by decide +kernel
theorem dL_law__1946 : decode cL_law_ 1946 = .ok (.istore 6, 2) := by decide +kernel
theorem dL_law__1948 : decode cL_law_ 1948 = .ok (.aload_n 2, 1) := by decide +kernel
theorem dL_law__1949 : decode cL_law_ 1949 = .ok (.invokevirtual 149, 3) := by decide +kernel
theorem dL_law__1952 : decode cL_law_ 1952 = .ok (.iload 5, 2) := by decide +kernel
theorem dL_law__1954 : decode cL_law_ 1954 = .ok (.if_icmp .eq 5, 3) := by decide +kernel
theorem dL_law__1957 : decode cL_law_ 1957 = .ok (.iconst 0, 1) := by decide +kernel
theorem dL_law__1958 : decode cL_law_ 1958 = .ok (.ireturn, 1) := by decide +kernel
theorem dL_law__1959 : decode cL_law_ 1959 = .ok (.iload 5, 2) := by decide +kernel
theorem dL_law__1961 : decode cL_law_ 1961 = .ok (.ifCond .ne 15, 3) := by decide +kernel
theorem dL_law__1964 : decode cL_law_ 1964 = .ok (.aload_n 3, 1) := by decide +kernel
theorem dL_law__1965 : decode cL_law_ 1965 = .ok (.iconst 0, 1) := by decide +kernel
theorem dL_law__1966 : decode cL_law_ 1966 = .ok (.laload, 1) := by decide +kernel
theorem dL_law__1967 : decode cL_law_ 1967 = .ok (.iload 6, 2) := by decide +kernel
theorem dL_law__1969 : decode cL_law_ 1969 = .ok (.i2l, 1) := by decide +kernel
theorem dL_law__1970 : decode cL_law_ 1970 = .ok (.lcmp, 1) := by decide +kernel
theorem dL_law__1971 : decode cL_law_ 1971 = .ok (.ifCond .eq 5, 3) := by decide +kernel
theorem dL_law__1974 : decode cL_law_ 1974 = .ok (.iconst 0, 1) := by decide +kernel
theorem dL_law__1975 : decode cL_law_ 1975 = .ok (.ireturn, 1) := by decide +kernel
theorem dL_law__1976 : decode cL_law_ 1976 = .ok (.goto 969, 3) := by decide +kernel
theorem dL_law__1979 : decode cL_law_ 1979 = .ok (.aload_n 1, 1) := by decide +kernel
theorem dL_law__1980 : decode cL_law_ 1980 = .ok (.aload_n 0, 1) := by decide +kernel
theorem dL_law__1981 : decode cL_law_ 1981 = .ok (.iload 4, 2) := by decide +kernel
theorem dL_law__1983 : decode cL_law_ 1983 = .ok (.iconst 1, 1) := by decide +kernel
theorem dL_law__1984 : decode cL_law_ 1984 = .ok (.iadd, 1) := by decide +kernel
theorem dL_law__1985 : decode cL_law_ 1985 = .ok (.iaload, 1) := by decide +kernel
theorem dL_law__1986 : decode cL_law_ 1986 = .ok (.aload_n 3, 1) := by decide +kernel
theorem dL_law__1987 : decode cL_law_ 1987 = .ok (.invokestatic 233, 3) := by decide +kernel
theorem dL_law__1990 : decode cL_law_ 1990 = .ok (.istore 5, 2) := by decide +kernel
theorem dL_law__1992 : decode cL_law_ 1992 = .ok (.aload_n 2, 1) := by decide +kernel
theorem dL_law__1993 : decode cL_law_ 1993 = .ok (.aload_n 0, 1) := by decide +kernel
theorem dL_law__1994 : decode cL_law_ 1994 = .ok (.iload 4, 2) := by decide +kernel
theorem dL_law__1996 : decode cL_law_ 1996 = .ok (.iconst 1, 1) := by decide +kernel
theorem dL_law__1997 : decode cL_law_ 1997 = .ok (.iadd, 1) := by decide +kernel
theorem dL_law__1998 : decode cL_law_ 1998 = .ok (.iaload, 1) := by decide +kernel
theorem dL_law__1999 : decode cL_law_ 1999 = .ok (.invokevirtual 235, 3) := by decide +kernel
theorem dL_law__2002 : decode cL_law_ 2002 = .ok (.istore 6, 2) := by decide +kernel
theorem dL_law__2004 : decode cL_law_ 2004 = .ok (.aload_n 2, 1) := by decide +kernel
theorem dL_law__2005 : decode cL_law_ 2005 = .ok (.invokevirtual 149, 3) := by decide +kernel
theorem dL_law__2008 : decode cL_law_ 2008 = .ok (.iload 5, 2) := by decide +kernel
theorem dL_law__2010 : decode cL_law_ 2010 = .ok (.if_icmp .eq 5, 3) := by decide +kernel
theorem dL_law__2013 : decode cL_law_ 2013 = .ok (.iconst 0, 1) := by decide +kernel
theorem dL_law__2014 : decode cL_law_ 2014 = .ok (.ireturn, 1) := by decide +kernel
theorem dL_law__2015 : decode cL_law_ 2015 = .ok (.iload 5, 2) := by decide +kernel
theorem dL_law__2017 : decode cL_law_ 2017 = .ok (.ifCond .ne 15, 3) := by decide +kernel
theorem dL_law__2020 : decode cL_law_ 2020 = .ok (.aload_n 3, 1) := by decide +kernel
theorem dL_law__2021 : decode cL_law_ 2021 = .ok (.iconst 0, 1) := by decide +kernel
theorem dL_law__2022 : decode cL_law_ 2022 = .ok (.laload, 1) := by decide +kernel
theorem dL_law__2023 : decode cL_law_ 2023 = .ok (.iload 6, 2) := by decide +kernel
theorem dL_law__2025 : decode cL_law_ 2025 = .ok (.i2l, 1) := by decide +kernel
theorem dL_law__2026 : decode cL_law_ 2026 = .ok (.lcmp, 1) := by decide +kernel
theorem dL_law__2027 : decode cL_law_ 2027 = .ok (.ifCond .eq 5, 3) := by decide +kernel
