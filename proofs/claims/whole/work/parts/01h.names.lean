theorem dL_law_1707 : decode cL_law 1707 = .ok (.iconst 3, 1) := by decide +kernel
theorem dL_law_1708 : decode cL_law 1708 = .ok (.iadd, 1) := by decide +kernel
theorem dL_law_1709 : decode cL_law 1709 = .ok (.iaload, 1) := by decide +kernel
theorem dL_law_1710 : decode cL_law 1710 = .ok (.invokevirtual 175, 3) := by decide +kernel
theorem dL_law_1713 : decode cL_law 1713 = .ok (.istore 6, 2) := by decide +kernel
theorem dL_law_1715 : decode cL_law 1715 = .ok (.aload_n 2, 1) := by decide +kernel
theorem dL_law_1716 : decode cL_law 1716 = .ok (.invokevirtual 106, 3) := by decide +kernel
theorem dL_law_1719 : decode cL_law 1719 = .ok (.iload 5, 2) := by decide +kernel
theorem dL_law_1721 : decode cL_law 1721 = .ok (.if_icmp .eq 5, 3) := by decide +kernel
theorem dL_law_1724 : decode cL_law 1724 = .ok (.iconst 0, 1) := by decide +kernel
theorem dL_law_1725 : decode cL_law 1725 = .ok (.ireturn, 1) := by decide +kernel
theorem dL_law_1726 : decode cL_law 1726 = .ok (.iload 5, 2) := by decide +kernel
theorem dL_law_1728 : decode cL_law 1728 = .ok (.ifCond .ne 15, 3) := by decide +kernel
theorem dL_law_1731 : decode cL_law 1731 = .ok (.aload_n 3, 1) := by decide +kernel
theorem dL_law_1732 : decode cL_law 1732 = .ok (.iconst 0, 1) := by decide +kernel
theorem dL_law_1733 : decode cL_law 1733 = .ok (.laload, 1) := by decide +kernel
theorem dL_law_1734 : decode cL_law 1734 = .ok (.iload 6, 2) := by decide +kernel
theorem dL_law_1736 : decode cL_law 1736 = .ok (.i2l, 1) := by decide +kernel
theorem dL_law_1737 : decode cL_law 1737 = .ok (.lcmp, 1) := by decide +kernel
theorem dL_law_1738 : decode cL_law 1738 = .ok (.ifCond .eq 5, 3) := by decide +kernel
theorem dL_law_1741 : decode cL_law 1741 = .ok (.iconst 0, 1) := by decide +kernel
theorem dL_law_1742 : decode cL_law 1742 = .ok (.ireturn, 1) := by decide +kernel
theorem dL_law_1743 : decode cL_law 1743 = .ok (.goto 138, 3) := by decide +kernel
theorem dL_law_1746 : decode cL_law 1746 = .ok (.aload_n 1, 1) := by decide +kernel
theorem dL_law_1747 : decode cL_law 1747 = .ok (.aload_n 0, 1) := by decide +kernel
theorem dL_law_1748 : decode cL_law 1748 = .ok (.iload 4, 2) := by decide +kernel
theorem dL_law_1750 : decode cL_law 1750 = .ok (.iconst 1, 1) := by decide +kernel
theorem dL_law_1751 : decode cL_law 1751 = .ok (.iadd, 1) := by decide +kernel
theorem dL_law_1752 : decode cL_law 1752 = .ok (.iaload, 1) := by decide +kernel
theorem dL_law_1753 : decode cL_law 1753 = .ok (.ifCond .eq 7, 3) := by decide +kernel
theorem dL_law_1756 : decode cL_law 1756 = .ok (.iconst 1, 1) := by decide +kernel
theorem dL_law_1757 : decode cL_law 1757 = .ok (.goto 4, 3) := by decide +kernel
theorem dL_law_1760 : decode cL_law 1760 = .ok (.iconst 0, 1) := by decide +kernel
theorem dL_law_1761 : decode cL_law 1761 = .ok (.aload_n 0, 1) := by decide +kernel
theorem dL_law_1762 : decode cL_law 1762 = .ok (.iload 4, 2) := by decide +kernel
theorem dL_law_1764 : decode cL_law 1764 = .ok (.iconst 2, 1) := by decide +kernel
theorem dL_law_1765 : decode cL_law 1765 = .ok (.iadd, 1) := by decide +kernel
theorem dL_law_1766 : decode cL_law 1766 = .ok (.iaload, 1) := by decide +kernel
theorem dL_law_1767 : decode cL_law 1767 = .ok (.ifCond .eq 7, 3) := by decide +kernel
theorem dL_law_1770 : decode cL_law 1770 = .ok (.iconst 1, 1) := by decide +kernel
theorem dL_law_1771 : decode cL_law 1771 = .ok (.goto 4, 3) := by decide +kernel
theorem dL_law_1774 : decode cL_law 1774 = .ok (.iconst 0, 1) := by decide +kernel
theorem dL_law_1775 : decode cL_law 1775 = .ok (.aload_n 0, 1) := by decide +kernel
theorem dL_law_1776 : decode cL_law 1776 = .ok (.iload 4, 2) := by decide +kernel
theorem dL_law_1778 : decode cL_law 1778 = .ok (.iconst 3, 1) := by decide +kernel
theorem dL_law_1779 : decode cL_law 1779 = .ok (.iadd, 1) := by decide +kernel
theorem dL_law_1780 : decode cL_law 1780 = .ok (.iaload, 1) := by decide +kernel
theorem dL_law_1781 : decode cL_law 1781 = .ok (.ifCond .eq 7, 3) := by decide +kernel
theorem dL_law_1784 : decode cL_law 1784 = .ok (.iconst 1, 1) := by decide +kernel
theorem dL_law_1785 : decode cL_law 1785 = .ok (.goto 4, 3) := by decide +kernel
theorem dL_law_1788 : decode cL_law 1788 = .ok (.iconst 0, 1) := by decide +kernel
theorem dL_law_1789 : decode cL_law 1789 = .ok (.invokevirtual 176, 3) := by decide +kernel
theorem dL_law_1792 : decode cL_law 1792 = .ok (.aload_n 2, 1) := by decide +kernel
theorem dL_law_1793 : decode cL_law 1793 = .ok (.aload_n 0, 1) := by decide +kernel
theorem dL_law_1794 : decode cL_law 1794 = .ok (.iload 4, 2) := by decide +kernel
theorem dL_law_1796 : decode cL_law 1796 = .ok (.iconst 1, 1) := by decide +kernel
theorem dL_law_1797 : decode cL_law 1797 = .ok (.iadd, 1) := by decide +kernel
theorem dL_law_1798 : decode cL_law 1798 = .ok (.iaload, 1) := by decide +kernel
theorem dL_law_1799 : decode cL_law 1799 = .ok (.ifCond .eq 7, 3) := by decide +kernel
theorem dL_law_1802 : decode cL_law 1802 = .ok (.iconst 1, 1) := by decide +kernel
theorem dL_law_1803 : decode cL_law 1803 = .ok (.goto 4, 3) := by decide +kernel
theorem dL_law_1806 : decode cL_law 1806 = .ok (.iconst 0, 1) := by decide +kernel
theorem dL_law_1807 : decode cL_law 1807 = .ok (.aload_n 0, 1) := by decide +kernel
theorem dL_law_1808 : decode cL_law 1808 = .ok (.iload 4, 2) := by decide +kernel
theorem dL_law_1810 : decode cL_law 1810 = .ok (.iconst 2, 1) := by decide +kernel
theorem dL_law_1811 : decode cL_law 1811 = .ok (.iadd, 1) := by decide +kernel
theorem dL_law_1812 : decode cL_law 1812 = .ok (.iaload, 1) := by decide +kernel
theorem dL_law_1813 : decode cL_law 1813 = .ok (.ifCond .eq 7, 3) := by decide +kernel
theorem dL_law_1816 : decode cL_law 1816 = .ok (.iconst 1, 1) := by decide +kernel
theorem dL_law_1817 : decode cL_law 1817 = .ok (.goto 4, 3) := by decide +kernel
theorem dL_law_1820 : decode cL_law 1820 = .ok (.iconst 0, 1) := by decide +kernel
theorem dL_law_1821 : decode cL_law 1821 = .ok (.aload_n 0, 1) := by decide +kernel
theorem dL_law_1822 : decode cL_law 1822 = .ok (.iload 4, 2) := by decide +kernel
theorem dL_law_1824 : decode cL_law 1824 = .ok (.iconst 3, 1) := by decide +kernel
theorem dL_law_1825 : decode cL_law 1825 = .ok (.iadd, 1) := by decide +kernel
theorem dL_law_1826 : decode cL_law 1826 = .ok (.iaload, 1) := by decide +kernel
theorem dL_law_1827 : decode cL_law 1827 = .ok (.ifCond .eq 7, 3) := by decide +kernel
theorem dL_law_1830 : decode cL_law 1830 = .ok (.iconst 1, 1) := by decide +kernel
theorem dL_law_1831 : decode cL_law 1831 = .ok (.goto 4, 3) := by decide +kernel
theorem dL_law_1834 : decode cL_law 1834 = .ok (.iconst 0, 1) := by decide +kernel
theorem dL_law_1835 : decode cL_law 1835 = .ok (.invokevirtual 180, 3) := by decide +kernel
theorem dL_law_1838 : decode cL_law 1838 = .ok (.if_icmp .eq 43, 3) := by decide +kernel
theorem dL_law_1841 : decode cL_law 1841 = .ok (.iconst 0, 1) := by decide +kernel
theorem dL_law_1842 : decode cL_law 1842 = .ok (.ireturn, 1) := by decide +kernel
theorem dL_law_1843 : decode cL_law 1843 = .ok (.aload_n 1, 1) := by decide +kernel
theorem dL_law_1844 : decode cL_law 1844 = .ok (.invokevirtual 181, 3) := by decide +kernel
theorem dL_law_1847 : decode cL_law 1847 = .ok (.aload_n 2, 1) := by decide +kernel
theorem dL_law_1848 : decode cL_law 1848 = .ok (.invokevirtual 184, 3) := by decide +kernel
theorem dL_law_1851 : decode cL_law 1851 = .ok (.if_icmp .eq 30, 3) := by decide +kernel
theorem dL_law_1854 : decode cL_law 1854 = .ok (.iconst 0, 1) := by decide +kernel
theorem dL_law_1855 : decode cL_law 1855 = .ok (.ireturn, 1) := by decide +kernel
theorem dL_law_1856 : decode cL_law 1856 = .ok (.aload_n 1, 1) := by decide +kernel
theorem dL_law_1857 : decode cL_law 1857 = .ok (.aload_n 0, 1) := by decide +kernel
theorem dL_law_1858 : decode cL_law 1858 = .ok (.iload 4, 2) := by decide +kernel
theorem dL_law_1860 : decode cL_law 1860 = .ok (.iconst 1, 1) := by decide +kernel
theorem dL_law_1861 : decode cL_law 1861 = .ok (.iadd, 1) := by decide +kernel
theorem dL_law_1862 : decode cL_law 1862 = .ok (.iaload, 1) := by decide +kernel
theorem dL_law_1863 : decode cL_law 1863 = .ok (.invokevirtual 185, 3) := by decide +kernel
theorem dL_law_1866 : decode cL_law 1866 = .ok (.aload_n 2, 1) := by decide +kernel
theorem dL_law_1867 : decode cL_law 1867 = .ok (.aload_n 0, 1) := by decide +kernel
theorem dL_law_1868 : decode cL_law 1868 = .ok (.iload 4, 2) := by decide +kernel
theorem dL_law_1870 : decode cL_law 1870 = .ok (.iconst 1, 1) := by decide +kernel
theorem dL_law_1871 : decode cL_law 1871 = .ok (.iadd, 1) := by decide +kernel
theorem dL_law_1872 : decode cL_law 1872 = .ok (.iaload, 1) := by decide +kernel
theorem dL_law_1873 : decode cL_law 1873 = .ok (.invokevirtual 188, 3) := by decide +kernel
theorem dL_law_1876 : decode cL_law 1876 = .ok (.if_icmp .eq 5, 3) := by decide +kernel
theorem dL_law_1879 : decode cL_law 1879 = .ok (.iconst 0, 1) := by decide +kernel
theorem dL_law_1880 : decode cL_law 1880 = .ok (.ireturn, 1) := by decide +kernel
theorem dL_law_1881 : decode cL_law 1881 = .ok (.iinc 4 9, 3) := by decide +kernel
theorem dL_law_1884 : decode cL_law 1884 = .ok (.goto (-1861), 3) := by decide +kernel
theorem dL_law_1887 : decode cL_law 1887 = .ok (.iconst 1, 1) := by decide +kernel
theorem dL_law_1888 : decode cL_law 1888 = .ok (.ireturn, 1) := by decide +kernel
abbrev vwCl : List vw_C := [(RX0, TX0, 8), (RX1, TX1, 6), (RX2, TX2, 5), (RX3, TX3, 3), (RX4, TX4, 7), (RX5, TX5, 9), (RX6, TX6, 3), (RX7, TX7, 6), (RX8, TX8, 4), (RX9, TX9, 16), (RX10, TX10, 53)]
